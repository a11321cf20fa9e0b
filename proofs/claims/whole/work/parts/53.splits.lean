theorem rt_h0 {C : Nat → Nat} {pg lg a b x : Nat} {pre : List (Nat × (Nat → Nat))} (hF : FULL C pg lg) (h : RTH C pg lg pre a b x) : apC C (rtC C pre a b x) 0 = C 0 := by
  have := rt_0 hF h (rtC C pre a b x).length (i := 0) (by decide)
  rw [List.take_length] at this
  exact this
theorem v_lvf5a {x : Kx} {nL : Nat} {D : va_G} {A : Nat → Prop} {wr : Bool} {cells slots : Nat} {ws : va_W} {pc : Nat} {a b c d e f : Nat × Value} {st : List Value} (h : Vw x nL A D wr cells slots ws pc [a, b, c, d, e] st) : Vw x nL A D wr cells slots ws pc [a, b, c, d, e, f] st := by
  intro H locs ls h1 h2 h3 h4
  refine h H locs ls h1 h2 h3 ⟨h4.1, h4.2.1, fun z hz => h4.2.2 z ?_⟩
  simp only [List.mem_cons, List.not_mem_nil, or_false] at hz ⊢
  rcases hz with h | h | h | h | h
  · exact Or.inl h
  · exact Or.inr (Or.inl h)
  · exact Or.inr (Or.inr (Or.inl h))
  · exact Or.inr (Or.inr (Or.inr (Or.inl h)))
  · exact Or.inr (Or.inr (Or.inr (Or.inr (Or.inl h))))
set_option maxHeartbeats 1000000 in
set_option maxRecDepth 20000 in
theorem lp_X5_splits1 {D : va_G} {cI cB cJ cZ : ClassId} {x : Kx} {hm : Nat} {r : Nat → Nat} {th : Int} {pg lg : Nat} {wt al : Int} {tp an ch : Nat} {C : Nat → Nat} {Cm Dr En Ot : Nat → Nat} {Ib : Nat → Bool} {Bd Mn : Nat → Nat} {q : RQ} {Ou Cg : Nat → Nat} {P : Int} {p e x9 a b : Nat} (k : Kf x cX5_splits 6 yX5_splits.cls (some .int) D (TY cI cB cJ cZ) ({ frames := 4, cells := 0, slots := 0, locals := 90 })) {A : Nat → Prop} (hF9 : FULL C pg lg) (hR9 : RM C lg Dr En Ib Bd Mn q) (hP9 : P = (p : Int)) (hp9 : p < 256) (he9 : e < C 0) (hx9 : x9 < 256) (hgo : ∀ i, i < 2 ^ C 0 → ((En i = p ∧ i / 2 ^ (C 0 - 1 - e) % 2 = 1) ↔ (a ≤ i ∧ i < b))) (hk9 : Vw x 6 A D true 0 0 [oM hm r th pg lg wt al 0 (C 0) (pF (C 0)) tp an ch, aB cB (r 0) 65536 (Cm), aN cI (r 1) 256 (Dr), aN cI (r 2) 65536 (En), aN cI (r 3) 65536 (lo (fun i => if a ≤ i ∧ i < b then x9 else En i) Ot (2 ^ C 0)), aZ cZ (r 4) 256 (Ib), aN cI (r 5) 256 (Bd), aN cI (r 6) 256 (Mn), aN cI (r 7) 23040 (q).1, aN cI (r 8) 23040 (q).2.1, aL cJ (r 9) 46080 (q).2.2.1, aL cJ (r 10) 92160 (q).2.2.2, aN cI (r 13) 256 (Ou), aN cI (r 14) 256 (Cg)] 103 [(0, .ref hm), (1, .int (iI P)), (2, .int (iI ((e : Nat) : Int))), (3, .int (iI ((x9 : Nat) : Int))), (4, .int (iI ((2 ^ C 0 : Nat) : Int)))] []) : ∀ (m : Nat) (i : Nat) (I : Int), 2 ^ C 0 < i + m → i ≤ 2 ^ C 0 → I = (i : Int) → Vw x 6 A D true 0 0 [oM hm r th pg lg wt al 0 (C 0) (pF (C 0)) tp an ch, aB cB (r 0) 65536 (Cm), aN cI (r 1) 256 (Dr), aN cI (r 2) 65536 (En), aN cI (r 3) 65536 (lo (fun i => if a ≤ i ∧ i < b then x9 else En i) Ot i), aZ cZ (r 4) 256 (Ib), aN cI (r 5) 256 (Bd), aN cI (r 6) 256 (Mn), aN cI (r 7) 23040 (q).1, aN cI (r 8) 23040 (q).2.1, aL cJ (r 9) 46080 (q).2.2.1, aL cJ (r 10) 92160 (q).2.2.2, aN cI (r 13) 256 (Ou), aN cI (r 14) 256 (Cg)] 28 [(0, .ref hm), (1, .int (iI P)), (2, .int (iI ((e : Nat) : Int))), (3, .int (iI ((x9 : Nat) : Int))), (4, .int (iI I))] [] := by
  intro m
  induction m with
  | zero => intro i I hm9 hi e1; omega
  | succ m ih =>
    intro i I hm9 hi e1
    have hF := hF9
    obtain ⟨w1, w2, w3, w4, w5, w6, w7⟩ := id hF.1.1
    have h14 := hF.1.2.2.2
    have h15 : 2 ^ C 0 ≤ 2 ^ 14 := Nat.pow_le_pow_right (by decide) h14
    have h15b : (2 : Nat) ^ 14 = 16384 := by decide
    have h16 : 0 < 2 ^ C 0 := Nat.pow_pos (by decide)
    have hpf := pF_le15 w4
    refine v_iload (n := 30) k dX5_splits_28 rfl rfl ?_
    refine v_iconst (n := 31) k dX5_splits_30 rfl ?_
    refine v_aload_n (n := 32) k dX5_splits_31 rfl rfl ?_
    refine v_get (n := 35) k ciX5 0 7 (by decide) fl_X5_95 rfl rfl dX5_splits_32 rfl ?_
    refine v_ishl (n := 36) k (((2 ^ C 0 : Nat) : Int)) (by have h9 := ax_shl (a := 1) (d := C 0) rfl rfl (by omega) (by omega); rw [Nat.one_mul] at h9; exact h9) dX5_splits_35 rfl ?_
    refine v_icmp_ge (n := 39) (t := 103) k (⟨by omega, by omega⟩) (⟨by omega, by omega⟩) dX5_splits_36 (by decide) rfl (fun c_36 => ?_) (fun c_36 => ?_)
    · have e8 : i = 2 ^ C 0 := by omega
      rw [show I = ((2 ^ C 0 : Nat) : Int) by omega, e8]
      exact hk9
    · have he8 := hR9.2.2.2.2.2.1 i
      have hg9 := hgo i (by omega)
      refine v_aload_n (n := 40) k dX5_splits_39 rfl rfl ?_
      refine v_get (n := 43) k ciX5 0 10 (by decide) fl_X5_22 rfl rfl dX5_splits_40 rfl ?_
      refine v_iload (n := 45) k dX5_splits_43 rfl rfl ?_
      refine v_ialdN (n := 46) k 3 0 (i) rfl rfl (by omega) (by omega) (by omega) dX5_splits_45 rfl ?_
      refine v_iload_n (n := 47) k dX5_splits_46 rfl rfl ?_
      refine v_icmp_ne (n := 50) (t := 71) k (⟨by omega, by omega⟩) (⟨by omega, by omega⟩) dX5_splits_47 (by decide) rfl (fun c_47 => ?_) (fun c_47 => ?_)
      · refine v_iconst (n := 72) k dX5_splits_71 rfl ?_
        refine v_istore (n := 74) k dX5_splits_72 rfl (by decide) rfl rfl ?_
        refine v_aload_n (n := 75) k dX5_splits_74 rfl rfl ?_
        refine v_get (n := 78) k ciX5 0 11 (by decide) fl_X5_25 rfl rfl dX5_splits_75 rfl ?_
        refine v_iload (n := 80) k dX5_splits_78 rfl rfl ?_
        refine v_iload (n := 82) k dX5_splits_80 rfl rfl ?_
        refine v_if_eq (n := 85) (t := 89) k (⟨by omega, by omega⟩) dX5_splits_82 (by decide) rfl (fun c_82 => ?_) (fun c_82 => ?_)
        · refine v_aload_n (n := 90) k dX5_splits_89 rfl rfl ?_
          refine v_get (n := 93) k ciX5 0 10 (by decide) fl_X5_22 rfl rfl dX5_splits_90 rfl ?_
          refine v_iload (n := 95) k dX5_splits_93 rfl rfl ?_
          refine v_ialdN (n := 96) k 3 0 (i) rfl rfl (by omega) (by omega) (by omega) dX5_splits_95 rfl ?_
          refine v_iastN (n := 97) k 4 0 (i) rfl rfl (by omega) (by omega) (by omega) (En i) (rfl) dX5_splits_96 rfl ?_
          rw [lo_s (f := fun i => if a ≤ i ∧ i < b then x9 else En i) (b := En i) (by exact if_neg (fun z => by have := hg9.mpr z; omega))]
          refine v_iinc (n := 100) k dX5_splits_97 rfl (by decide) rfl rfl rfl ?_
          refine v_goto (t := 28) k dX5_splits_100 (by decide) ?_
          refine v_lvf5a ?_
          exact ih (i + 1) _ (by omega) (by omega) (by omega)
        · exfalso; omega
      · refine v_iload (n := 52) k dX5_splits_50 rfl rfl ?_
        refine v_aload_n (n := 53) k dX5_splits_52 rfl rfl ?_
        refine v_get (n := 56) k ciX5 0 7 (by decide) fl_X5_95 rfl rfl dX5_splits_53 rfl ?_
        refine v_iconst (n := 57) k dX5_splits_56 rfl ?_
        refine v_isub (n := 58) k dX5_splits_57 rfl ?_
        refine v_iload_n (n := 59) k dX5_splits_58 rfl rfl ?_
        refine v_isub (n := 60) k dX5_splits_59 rfl ?_
        refine v_ishr (n := 61) k (((i / 2 ^ (C 0 - 1 - e) : Nat) : Int)) (ax_shr e1 (by omega) (by omega) (by omega)) dX5_splits_60 rfl ?_
        refine v_iconst (n := 62) k dX5_splits_61 rfl ?_
        refine v_iand (n := 63) k (((i / 2 ^ (C 0 - 1 - e) % 2 : Nat) : Int)) (ax_m1 rfl) dX5_splits_62 rfl ?_
        refine v_iconst (n := 64) k dX5_splits_63 rfl ?_
        refine v_icmp_ne (n := 67) (t := 71) k (⟨by omega, by omega⟩) (⟨by omega, by omega⟩) dX5_splits_64 (by decide) rfl (fun c_64 => ?_) (fun c_64 => ?_)
        · refine v_iconst (n := 72) k dX5_splits_71 rfl ?_
          refine v_istore (n := 74) k dX5_splits_72 rfl (by decide) rfl rfl ?_
          refine v_aload_n (n := 75) k dX5_splits_74 rfl rfl ?_
          refine v_get (n := 78) k ciX5 0 11 (by decide) fl_X5_25 rfl rfl dX5_splits_75 rfl ?_
          refine v_iload (n := 80) k dX5_splits_78 rfl rfl ?_
          refine v_iload (n := 82) k dX5_splits_80 rfl rfl ?_
          refine v_if_eq (n := 85) (t := 89) k (⟨by omega, by omega⟩) dX5_splits_82 (by decide) rfl (fun c_82 => ?_) (fun c_82 => ?_)
          · refine v_aload_n (n := 90) k dX5_splits_89 rfl rfl ?_
            refine v_get (n := 93) k ciX5 0 10 (by decide) fl_X5_22 rfl rfl dX5_splits_90 rfl ?_
            refine v_iload (n := 95) k dX5_splits_93 rfl rfl ?_
            refine v_ialdN (n := 96) k 3 0 (i) rfl rfl (by omega) (by omega) (by omega) dX5_splits_95 rfl ?_
            refine v_iastN (n := 97) k 4 0 (i) rfl rfl (by omega) (by omega) (by omega) (En i) (rfl) dX5_splits_96 rfl ?_
            rw [lo_s (f := fun i => if a ≤ i ∧ i < b then x9 else En i) (b := En i) (by exact if_neg (fun z => by have := hg9.mpr z; omega))]
            refine v_iinc (n := 100) k dX5_splits_97 rfl (by decide) rfl rfl rfl ?_
            refine v_goto (t := 28) k dX5_splits_100 (by decide) ?_
            refine v_lvf5a ?_
            exact ih (i + 1) _ (by omega) (by omega) (by omega)
          · exfalso; omega
        · refine v_iconst (n := 68) k dX5_splits_67 rfl ?_
          refine v_goto (t := 72) k dX5_splits_68 (by decide) ?_
          refine v_istore (n := 74) k dX5_splits_72 rfl (by decide) rfl rfl ?_
          refine v_aload_n (n := 75) k dX5_splits_74 rfl rfl ?_
          refine v_get (n := 78) k ciX5 0 11 (by decide) fl_X5_25 rfl rfl dX5_splits_75 rfl ?_
          refine v_iload (n := 80) k dX5_splits_78 rfl rfl ?_
          refine v_iload (n := 82) k dX5_splits_80 rfl rfl ?_
          refine v_if_eq (n := 85) (t := 89) k (⟨by omega, by omega⟩) dX5_splits_82 (by decide) rfl (fun c_82 => ?_) (fun c_82 => ?_)
          · exfalso; omega
          · refine v_iload_n (n := 86) k dX5_splits_85 rfl rfl ?_
            refine v_goto (t := 96) k dX5_splits_86 (by decide) ?_
            refine v_iastN (n := 97) k 4 0 (i) rfl rfl (by omega) (by omega) (by omega) (x9) (rfl) dX5_splits_96 rfl ?_
            rw [lo_s (f := fun i => if a ≤ i ∧ i < b then x9 else En i) (b := x9) (by exact if_pos (hg9.mp ⟨by omega, by omega⟩))]
            refine v_iinc (n := 100) k dX5_splits_97 rfl (by decide) rfl rfl rfl ?_
            refine v_goto (t := 28) k dX5_splits_100 (by decide) ?_
            refine v_lvf5a ?_
            exact ih (i + 1) _ (by omega) (by omega) (by omega)
set_option maxHeartbeats 1000000 in
set_option maxRecDepth 20000 in
theorem lp_X5_splits2 {D : va_G} {cI cB cJ cZ : ClassId} {x : Kx} {hm : Nat} {r : Nat → Nat} {th : Int} {pg lg : Nat} {wt al : Int} {tp an ch : Nat} {C : Nat → Nat} {Cm Dr En Ot : Nat → Nat} {Ib : Nat → Bool} {Bd Mn : Nat → Nat} {q : RQ} {Ou Cg : Nat → Nat} {P : Int} {e x9 : Nat} (k : Kf x cX5_splits 6 yX5_splits.cls (some .int) D (TY cI cB cJ cZ) ({ frames := 4, cells := 0, slots := 0, locals := 90 })) {A : Nat → Prop} (hF9 : FULL C pg lg) (hk9 : Vw x 6 A D true 0 0 [oM hm r th pg lg wt al 0 (C 0) (pF (C 0)) tp an ch, aB cB (r 0) 65536 (Cm), aN cI (r 1) 256 (Dr), aN cI (r 2) 65536 (lo Ot En (2 ^ C 0)), aN cI (r 3) 65536 (Ot), aZ cZ (r 4) 256 (Ib), aN cI (r 5) 256 (Bd), aN cI (r 6) 256 (Mn), aN cI (r 7) 23040 (q).1, aN cI (r 8) 23040 (q).2.1, aL cJ (r 9) 46080 (q).2.2.1, aL cJ (r 10) 92160 (q).2.2.2, aN cI (r 13) 256 (Ou), aN cI (r 14) 256 (Cg)] 173 [(0, .ref hm), (1, .int (iI P)), (2, .int (iI ((e : Nat) : Int))), (3, .int (iI ((x9 : Nat) : Int))), (4, .int (iI ((2 ^ C 0 : Nat) : Int)))] []) : ∀ (m : Nat) (i : Nat) (I : Int), 2 ^ C 0 < i + m → i ≤ 2 ^ C 0 → I = (i : Int) → Vw x 6 A D true 0 0 [oM hm r th pg lg wt al 0 (C 0) (pF (C 0)) tp an ch, aB cB (r 0) 65536 (Cm), aN cI (r 1) 256 (Dr), aN cI (r 2) 65536 (lo Ot En i), aN cI (r 3) 65536 (Ot), aZ cZ (r 4) 256 (Ib), aN cI (r 5) 256 (Bd), aN cI (r 6) 256 (Mn), aN cI (r 7) 23040 (q).1, aN cI (r 8) 23040 (q).2.1, aL cJ (r 9) 46080 (q).2.2.1, aL cJ (r 10) 92160 (q).2.2.2, aN cI (r 13) 256 (Ou), aN cI (r 14) 256 (Cg)] 142 [(0, .ref hm), (1, .int (iI P)), (2, .int (iI ((e : Nat) : Int))), (3, .int (iI ((x9 : Nat) : Int))), (4, .int (iI I))] [] := by
  intro m
  induction m with
  | zero => intro i I hm9 hi e1; omega
  | succ m ih =>
    intro i I hm9 hi e1
    have hF := hF9
    obtain ⟨w1, w2, w3, w4, w5, w6, w7⟩ := id hF.1.1
    have h14 := hF.1.2.2.2
    have h15 : 2 ^ C 0 ≤ 2 ^ 14 := Nat.pow_le_pow_right (by decide) h14
    have h15b : (2 : Nat) ^ 14 = 16384 := by decide
    have h16 : 0 < 2 ^ C 0 := Nat.pow_pos (by decide)
    have hpf := pF_le15 w4
    refine v_iload (n := 144) k dX5_splits_142 rfl rfl ?_
    refine v_iconst (n := 145) k dX5_splits_144 rfl ?_
    refine v_aload_n (n := 146) k dX5_splits_145 rfl rfl ?_
    refine v_get (n := 149) k ciX5 0 7 (by decide) fl_X5_95 rfl rfl dX5_splits_146 rfl ?_
    refine v_ishl (n := 150) k (((2 ^ C 0 : Nat) : Int)) (by have h9 := ax_shl (a := 1) (d := C 0) rfl rfl (by omega) (by omega); rw [Nat.one_mul] at h9; exact h9) dX5_splits_149 rfl ?_
    refine v_icmp_ge (n := 153) (t := 173) k (⟨by omega, by omega⟩) (⟨by omega, by omega⟩) dX5_splits_150 (by decide) rfl (fun c_150 => ?_) (fun c_150 => ?_)
    · have e8 : i = 2 ^ C 0 := by omega
      rw [show I = ((2 ^ C 0 : Nat) : Int) by omega, e8]
      exact hk9
    · refine v_aload_n (n := 154) k dX5_splits_153 rfl rfl ?_
      refine v_get (n := 157) k ciX5 0 10 (by decide) fl_X5_22 rfl rfl dX5_splits_154 rfl ?_
      refine v_iload (n := 159) k dX5_splits_157 rfl rfl ?_
      refine v_aload_n (n := 160) k dX5_splits_159 rfl rfl ?_
      refine v_get (n := 163) k ciX5 0 11 (by decide) fl_X5_25 rfl rfl dX5_splits_160 rfl ?_
      refine v_iload (n := 165) k dX5_splits_163 rfl rfl ?_
      refine v_ialdN (n := 166) k 4 0 (i) rfl rfl (by omega) (by omega) (by omega) dX5_splits_165 rfl ?_
      refine v_iastN (n := 167) k 3 0 (i) rfl rfl (by omega) (by omega) (by omega) (Ot i) (rfl) dX5_splits_166 rfl ?_
      rw [lo_s (f := Ot) rfl]
      refine v_iinc (n := 170) k dX5_splits_167 rfl (by decide) rfl rfl rfl ?_
      refine v_goto (t := 142) k dX5_splits_170 (by decide) ?_
      exact ih (i + 1) _ (by omega) (by omega) (by omega)
set_option maxHeartbeats 1000000 in
set_option maxRecDepth 20000 in
theorem lp_X5_splits3 {D : va_G} {cI cB cJ cZ : ClassId} {x : Kx} {hm : Nat} {r : Nat → Nat} {th : Int} {pg lg : Nat} {wt al : Int} {tp an ch : Nat} {C : Nat → Nat} {Cm Dr En Ot : Nat → Nat} {Ib : Nat → Bool} {Bd Mn0 : Nat → Nat} {q0 : RQ} {Ou Cg : Nat → Nat} {P : Int} {p e x9 : Nat} (k : Kf x cX5_splits 6 yX5_splits.cls (some .int) D (TY cI cB cJ cZ) ({ frames := 4, cells := 0, slots := 0, locals := 90 })) {A : Nat → Prop} (hP9 : P = (p : Int)) (hp9 : p < 256) (hx9 : x9 < 256) (hpx : p ≠ x9) (he9 : e ≤ 15) (hn84 : pb C p 1 ≤ 84) (h084 : ∀ j, Mn0 j ≤ 84) (hk9 : ∀ (R : Int) (Mn : Nat → Nat) (q : RQ), SPI C p e x9 Mn0 q0 (pb C p 1) Mn q → Vw x 6 A D true 0 0 [oM hm r th pg lg wt al 0 (C 0) (pF (C 0)) tp an ch, aB cB (r 0) 65536 (Cm), aN cI (r 1) 256 (Dr), aN cI (r 2) 65536 (En), aN cI (r 3) 65536 (Ot), aZ cZ (r 4) 256 (Ib), aN cI (r 5) 256 (Bd), aN cI (r 6) 256 (Mn), aN cI (r 7) 23040 (q).1, aN cI (r 8) 23040 (q).2.1, aL cJ (r 9) 46080 (q).2.2.1, aL cJ (r 10) 92160 (q).2.2.2, aN cI (r 13) 256 (Ou), aN cI (r 14) 256 (Cg)] 288 [(0, .ref hm), (1, .int (iI P)), (2, .int (iI ((e : Nat) : Int))), (3, .int (iI ((x9 : Nat) : Int))), (4, .int (iI R))] []) : ∀ (m : Nat) (t : Nat) (R : Int) (Mn : Nat → Nat) (q : RQ), pb C p 1 < t + m → t ≤ pb C p 1 → R = (((recS C p (fun r => bitB (rh C p r) e == 0) t).length : Nat) : Int) → SPI C p e x9 Mn0 q0 t Mn q → Vw x 6 A D true 0 0 [oM hm r th pg lg wt al 0 (C 0) (pF (C 0)) tp an ch, aB cB (r 0) 65536 (Cm), aN cI (r 1) 256 (Dr), aN cI (r 2) 65536 (En), aN cI (r 3) 65536 (Ot), aZ cZ (r 4) 256 (Ib), aN cI (r 5) 256 (Bd), aN cI (r 6) 256 (Mn), aN cI (r 7) 23040 (q).1, aN cI (r 8) 23040 (q).2.1, aL cJ (r 9) 46080 (q).2.2.1, aL cJ (r 10) 92160 (q).2.2.2, aN cI (r 13) 256 (Ou), aN cI (r 14) 256 (Cg)] 208 [(0, .ref hm), (1, .int (iI P)), (2, .int (iI ((e : Nat) : Int))), (3, .int (iI ((x9 : Nat) : Int))), (4, .int (iI R))] [] := by
  intro m
  induction m with
  | zero => intro t R Mn q hm9 ht e1 hI; omega
  | succ m ih =>
    intro t R Mn q hm9 ht e1 hI
    have hlp := hI.lp ht
    have hlx := hI.lx
    have hl0 := recS_len C p (fun r => bitB (rh C p r) e == 0) t
    have hl1 := recS_len C p (fun r => bitB (rh C p r) e == 1) t
    have hu7 : upN Mn x9 (Mn x9 + 1) p = Mn p := by rw [upN_at, if_neg hpx]
    have hm84 := hI.mn84 ht hn84 h084
    have hm1 := hm84 p
    have hm2 := hm84 x9
    refine v_iload (n := 210) k dX5_splits_208 rfl rfl ?_
    refine v_aload_n (n := 211) k dX5_splits_210 rfl rfl ?_
    refine v_get (n := 214) k ciX5 0 14 (by decide) fl_X5_35 rfl rfl dX5_splits_211 rfl ?_
    refine v_iload_n (n := 215) k dX5_splits_214 rfl rfl ?_
    refine v_ialdN (n := 216) k 7 0 (p) rfl rfl (by omega) (by omega) (by omega) dX5_splits_215 rfl ?_
    refine v_icmp_ge (n := 219) (t := 288) k (⟨by omega, by omega⟩) (⟨by omega, by omega⟩) dX5_splits_216 (by decide) rfl (fun c_216 => ?_) (fun c_216 => ?_)
    · have e8 : t = pb C p 1 := by omega
      exact hk9 _ _ _ (e8 ▸ hI)
    · have hrh := hx_rh (hI.rec (by omega))
      have hrl : rh C p t < 65536 := hsh_lt _ _ _
      have hbe : bitB (rh C p t) e = rh C p t / 2 ^ (15 - e) % 2 := rfl
      refine v_bipush (n := 221) k dX5_splits_219 (by decide) rfl ?_
      refine v_iload_n (n := 222) k dX5_splits_221 rfl rfl ?_
      refine v_imul (n := 223) k dX5_splits_222 rfl ?_
      refine v_iload (n := 225) k dX5_splits_223 rfl rfl ?_
      refine v_iadd (n := 226) k dX5_splits_225 rfl ?_
      refine v_istore (n := 228) k dX5_splits_226 rfl (by decide) rfl rfl ?_
      refine v_aload_n (n := 229) k dX5_splits_228 rfl rfl ?_
      refine v_iload (n := 231) k dX5_splits_229 rfl rfl ?_
      refine v_rdVi (n := 234) k [0, 8, 10] 0 (z_X5_hashOf (u := 90 * p + (recS C p (fun r => bitB (rh C p r) e == 0) t).length) (by omega) (by omega) hI.1) miX5_hashOf ml_X5_163 (by decide) (by decide) rfl (by decide) rfl rfl rfl rfl (Nat.le_of_ble_eq_true rfl) ⟨Nat.zero_le _, Nat.zero_le _⟩ dX5_splits_231 rfl ?_
      rw [hrh]
      refine v_bipush (n := 236) k dX5_splits_234 (by decide) rfl ?_
      refine v_iload_n (n := 237) k dX5_splits_236 rfl rfl ?_
      refine v_isub (n := 238) k dX5_splits_237 rfl ?_
      refine v_ishr (n := 239) k (((rh C p t / 2 ^ (15 - e) : Nat) : Int)) (ax_shr rfl (by omega) (by omega) (by omega)) dX5_splits_238 rfl ?_
      refine v_iconst (n := 240) k dX5_splits_239 rfl ?_
      refine v_iand (n := 241) k (((rh C p t / 2 ^ (15 - e) % 2 : Nat) : Int)) (ax_m1 rfl) dX5_splits_240 rfl ?_
      refine v_iconst (n := 242) k dX5_splits_241 rfl ?_
      refine v_icmp_ne (n := 245) (t := 282) k (⟨by omega, by omega⟩) (⟨by omega, by omega⟩) dX5_splits_242 (by decide) rfl (fun c_242 => ?_) (fun c_242 => ?_)
      · refine v_iinc (n := 285) k dX5_splits_282 rfl (by decide) rfl rfl rfl ?_
        refine v_goto (t := 208) k dX5_splits_285 (by decide) ?_
        refine v_lvf5a ?_
        exact ih (t + 1) _ Mn q (by omega) (by omega) (by have := sp_l0 (C := C) (p := p) (e := e) (t := t) (by omega); omega) (hI.stay (by omega) (by omega))
      · refine v_aload_n (n := 246) k dX5_splits_245 rfl rfl ?_
        refine v_iload (n := 248) k dX5_splits_246 rfl rfl ?_
        refine v_bipush (n := 250) k dX5_splits_248 (by decide) rfl ?_
        refine v_iload_n (n := 251) k dX5_splits_250 rfl rfl ?_
        refine v_imul (n := 252) k dX5_splits_251 rfl ?_
        refine v_aload_n (n := 253) k dX5_splits_252 rfl rfl ?_
        refine v_get (n := 256) k ciX5 0 14 (by decide) fl_X5_35 rfl rfl dX5_splits_253 rfl ?_
        refine v_iload_n (n := 257) k dX5_splits_256 rfl rfl ?_
        refine v_ialdN (n := 258) k 7 0 (x9) rfl rfl (by omega) (by omega) (by omega) dX5_splits_257 rfl ?_
        refine v_iadd (n := 259) k dX5_splits_258 rfl ?_
        refine v_upV (n := 262) k [0, 8, 9, 10, 11] 0 (z_X5_copyRecord (f := 90 * p + (recS C p (fun r => bitB (rh C p r) e == 0) t).length) (t := 90 * x9 + Mn x9) (by omega) (by omega) (by omega) (by omega)) miX5_copyRecord ml_X5_150 (by decide) (by decide) rfl (by decide) rfl rfl rfl rfl (Nat.le_of_ble_eq_true rfl) ⟨Nat.zero_le _, Nat.zero_le _⟩ dX5_splits_259 rfl ?_
        rintro _ _ ⟨rfl, rfl⟩
        dsimp only [wput, List.set, Option.toList, List.nil_append, List.cons_append]
        refine v_aload_n (n := 263) k dX5_splits_262 rfl rfl ?_
        refine v_get (n := 266) k ciX5 0 14 (by decide) fl_X5_35 rfl rfl dX5_splits_263 rfl ?_
        refine v_iload_n (n := 267) k dX5_splits_266 rfl rfl ?_
        refine v_dup2 (n := 268) k rfl rfl dX5_splits_267 rfl ?_
        refine v_ialdN (n := 269) k 7 0 (x9) rfl rfl (by omega) (by omega) (by omega) dX5_splits_268 rfl ?_
        refine v_iconst (n := 270) k dX5_splits_269 rfl ?_
        refine v_iadd (n := 271) k dX5_splits_270 rfl ?_
        refine v_iastN (n := 272) k 7 0 (x9) rfl rfl (by omega) (by omega) (by omega) (Mn x9 + 1) (by omega) dX5_splits_271 rfl ?_
        refine v_aload_n (n := 273) k dX5_splits_272 rfl rfl ?_
        refine v_iload_n (n := 274) k dX5_splits_273 rfl rfl ?_
        refine v_iload (n := 276) k dX5_splits_274 rfl rfl ?_
        refine v_upV (n := 279) k [0, 7, 8, 9, 10, 11] 0 (z_X5_drop (p := p) (a := (recS C p (fun r => bitB (rh C p r) e == 0) t).length) hP9 e1 hp9 (by omega) (by omega)) miX5_drop ml_X5_166 (by decide) (by decide) rfl (by decide) rfl rfl rfl rfl (Nat.le_of_ble_eq_true rfl) ⟨Nat.zero_le _, Nat.zero_le _⟩ dX5_splits_276 rfl ?_
        rintro _ _ ⟨rfl, rfl⟩
        dsimp only [wput, List.set, Option.toList, List.nil_append, List.cons_append]
        refine v_goto (t := 285) k dX5_splits_279 (by decide) ?_
        refine v_goto (t := 208) k dX5_splits_285 (by decide) ?_
        refine v_lvf5a ?_
        exact ih (t + 1) _ _ _ (by omega) (by omega) (by rw [sp_l1 (by omega)]; exact e1) (hI.move (by omega) (by omega) hn84 hpx)
set_option maxHeartbeats 1000000 in
set_option maxRecDepth 20000 in
theorem z_X5_splits {D : va_G} {cI cB cJ cZ : ClassId} {hm : Nat} {r : Nat → Nat} {th : Int} {pg lg : Nat} {wt al : Int} {tp an ch : Nat} {C : Nat → Nat} {Cm Dr En Ot : Nat → Nat} {Ib : Nat → Bool} {Bd Mn : Nat → Nat} {q : RQ} {Ou Cg : Nat → Nat} {P : Int} {h : Nat} (hF : FULL C pg lg) (hj : pb C 1 0 = 0) (hA : AGP pg Cm C) (hal : in32 al) (hGc : ∀ j, Cg j < 256) (hR : RM C lg Dr En Ib Bd Mn q) (hh : h < 65536) (hP : P = ((entN C (idx C h) : Nat) : Int)) (hD : pb C (entN C (idx C h)) 0 ≠ C 0) : ∀ l, Up l yX5_splits cX5_splits 6 (some .int) ({ frames := 4, cells := 0, slots := 0, locals := 90 }) D (TY cI cB cJ cZ) [.ref hm, .int (iI P)] [oM hm r th pg lg wt al 0 (C 0) (pF (C 0)) tp an ch, aB cB (r 0) 65536 (Cm), aN cI (r 1) 256 (Dr), aN cI (r 2) 65536 (En), aN cI (r 3) 65536 (Ot), aZ cZ (r 4) 256 (Ib), aN cI (r 5) 256 (Bd), aN cI (r 6) 256 (Mn), aN cI (r 7) 23040 (q).1, aN cI (r 8) 23040 (q).2.1, aL cJ (r 9) 46080 (q).2.2.1, aL cJ (r 10) 92160 (q).2.2.2, aN cI (r 13) 256 (Ou), aN cI (r 14) 256 (Cg)] (PST cI cB cJ cZ hm r th pg lg tp an (sSpl (C, wt, al, 0) pg lg (entN C (idx C h)) h)) := by
  intro l
  refine Up_of (by decide) (Nat.le_of_ble_eq_true rfl) (fun x k hq => ?_)
  obtain ⟨w1, w2, w3, w4, w5, w6, w7⟩ := id hF.1.1
  have h14 := hF.1.2.2.2
  have h15 : 2 ^ C 0 ≤ 2 ^ 14 := Nat.pow_le_pow_right (by decide) h14
  have h15b : (2 : Nat) ^ 14 = 16384 := by decide
  have h16 : 0 < 2 ^ C 0 := Nat.pow_pos (by decide)
  have hpf := pF_le15 w4
  have hx := idx_lt (C := C) hh w4
  obtain ⟨e1, e2, e3, e4, e5⟩ := hF.2.1 _ hx
  have hRB := hR.rb hF hx
  have hgo0 := fun {i : Nat} (hi : i < 2 ^ C 0) => sp_goes hF hh hD hi
  obtain ⟨p, hp⟩ : ∃ p, p = entN C (idx C h) := ⟨_, rfl⟩
  rw [← hp] at hP hD e1 e2 e3 e4 e5 hRB hgo0 hq
  obtain ⟨e, he⟩ : ∃ e, e = pb C p 0 := ⟨_, rfl⟩
  rw [← he] at hD e5 hgo0
  have heb : Bd p = e := by rw [he]; exact hRB.1
  have hgo : ∀ i, i < 2 ^ C 0 → ((En i = p ∧ i / 2 ^ (C 0 - 1 - e) % 2 = 1) ↔ (spF C h e ≤ i ∧ i < spB C h e)) := fun i hi => by rw [hR.2.1 i hi]; exact hgo0 hi
  have hfr : frM Ib Dr (pF (C 0)) pg lg (lg + 2) = frN C pg lg 0 := by rw [frM_N hR w2, frN_lg]
  have hbl := hR.2.2.2.2.2.2.1 p
  have hlt := spF_lt (C := C) (h := h) (e := e) (by omega)
  have hle := spB_le (C := C) (h := h) (e := e) hh w4 (by omega)
  have hab : dpO (spF C h e) (spB C h e) ≤ 128 := by
    unfold dpO
    omega
  have hm84 := hR.2.2.2.2.2.2.2.1
  have hmp := hm84 p
  have hmn : Mn p = pb C p 1 := hRB.2.1
  refine v_aload_n (n := 1) k dX5_splits_0 rfl rfl ?_
  refine v_get (n := 4) k ciX5 0 13 (by decide) fl_X5_32 rfl rfl dX5_splits_1 rfl ?_
  refine v_iload_n (n := 5) k dX5_splits_4 rfl rfl ?_
  refine v_ialdN (n := 6) k 6 0 (p) rfl rfl (by omega) (by omega) (by omega) dX5_splits_5 rfl ?_
  rw [heb]
  refine v_istore_n (n := 7) k dX5_splits_6 rfl (by decide) rfl rfl ?_
  refine v_aload_n (n := 8) k dX5_splits_7 rfl rfl ?_
  refine v_aload_n (n := 9) k dX5_splits_8 rfl rfl ?_
  refine v_get (n := 12) k ciX5 0 3 (by decide) fl_X5_72 rfl rfl dX5_splits_9 rfl ?_
  refine v_iconst (n := 13) k dX5_splits_12 rfl ?_
  refine v_iadd (n := 14) k dX5_splits_13 rfl ?_
  refine v_rdVi (n := 17) k [0, 5, 2] 0 (z_X5_free (a := lg + 2) (by omega) (by omega) w2 w7 (by omega) hR.2.2.2.2.1) miX5_free ml_X5_153 (by decide) (by decide) rfl (by decide) rfl rfl rfl rfl (Nat.le_of_ble_eq_true rfl) ⟨Nat.zero_le _, Nat.zero_le _⟩ dX5_splits_14 rfl ?_
  rw [hfr]
  have hfi : (∃ x9, frN C pg lg 0 = some x9 ∧ fdI (frN C pg lg 0) = ((x9 : Nat) : Int)) ∨ (frN C pg lg 0 = none ∧ fdI (frN C pg lg 0) = -1) := by
    cases hq9 : frN C pg lg 0 with
    | some z => exact Or.inl ⟨z, rfl, rfl⟩
    | none => exact Or.inr ⟨rfl, rfl⟩
  have hfb : in32 (fdI (frN C pg lg 0)) := by
    rcases hfi with ⟨z, z1, z2⟩ | ⟨z1, z2⟩
    · have := (frN_in z1).1
      rw [z2]; exact ⟨by omega, by omega⟩
    · rw [z2]; exact ⟨by decide, by decide⟩
  generalize fdI (frN C pg lg 0) = Y at hfi hfb ⊢
  refine v_istore_n (n := 18) k dX5_splits_17 rfl (by decide) rfl rfl ?_
  refine v_iload_n (n := 19) k dX5_splits_18 rfl rfl ?_
  refine v_iconst (n := 20) k dX5_splits_19 rfl ?_
  refine v_icmp_ne (n := 23) (t := 25) k (hfb) (⟨by decide, by decide⟩) dX5_splits_20 (by decide) rfl (fun c_20 => ?_) (fun c_20 => ?_)
  · have hY : ∃ x9, frN C pg lg 0 = some x9 ∧ Y = ((x9 : Nat) : Int) := by
      rcases hfi with h9 | ⟨z1, z2⟩
      · exact h9
      · exact absurd z2 c_20
    obtain ⟨x9, hY1, rfl⟩ := hY
    clear hfi
    obtain ⟨q1, q2, q3⟩ := frN_in hY1
    obtain ⟨-, q4, q5⟩ := kd0_no q2
    have hpx : p ≠ x9 := by rw [hp]; exact visB_no q5 _ hx
    refine v_iconst (n := 26) k dX5_splits_25 rfl ?_
    refine v_istore (n := 28) k dX5_splits_26 rfl (by decide) rfl rfl ?_
    have e0 := lo_0 (fun i => if spF C h e ≤ i ∧ i < spB C h e then x9 else En i) Ot
    refine v_ws (ws' := [oM hm r th pg lg wt al 0 (C 0) (pF (C 0)) tp an ch, aB cB (r 0) 65536 (Cm), aN cI (r 1) 256 (Dr), aN cI (r 2) 65536 (En), aN cI (r 3) 65536 (lo (fun i => if spF C h e ≤ i ∧ i < spB C h e then x9 else En i) Ot 0), aZ cZ (r 4) 256 (Ib), aN cI (r 5) 256 (Bd), aN cI (r 6) 256 (Mn), aN cI (r 7) 23040 (q).1, aN cI (r 8) 23040 (q).2.1, aL cJ (r 9) 46080 (q).2.2.1, aL cJ (r 10) 92160 (q).2.2.2, aN cI (r 13) 256 (Ou), aN cI (r 14) 256 (Cg)]) (by rw [e0]) ?_
    refine lp_X5_splits1 (p := p) (e := e) (x9 := x9) (a := spF C h e) (b := spB C h e) k hF hR hP (by omega) (by omega) (by omega) hgo ?_ (2 ^ C 0 + 1) 0 _ (by omega) (by omega) rfl
    refine v_aload_n (n := 104) k dX5_splits_103 rfl rfl ?_
    refine v_get (n := 107) k ciX5 0 24 (by decide) fl_X5_62 rfl rfl dX5_splits_104 rfl ?_
    refine v_iconst (n := 108) k dX5_splits_107 rfl ?_
    refine v_iload_n (n := 109) k dX5_splits_108 rfl rfl ?_
    refine v_iastN (n := 110) k 13 0 (0) rfl rfl (by omega) (by omega) (by omega) (p) (by omega) dX5_splits_109 rfl ?_
    refine v_aload_n (n := 111) k dX5_splits_110 rfl rfl ?_
    refine v_get (n := 114) k ciX5 0 24 (by decide) fl_X5_62 rfl rfl dX5_splits_111 rfl ?_
    refine v_iconst (n := 115) k dX5_splits_114 rfl ?_
    refine v_iload_n (n := 116) k dX5_splits_115 rfl rfl ?_
    refine v_iastN (n := 117) k 13 0 (1) rfl rfl (by omega) (by omega) (by omega) (x9) (by omega) dX5_splits_116 rfl ?_
    refine v_aload_n (n := 118) k dX5_splits_117 rfl rfl ?_
    refine v_aload_n (n := 119) k dX5_splits_118 rfl rfl ?_
    refine v_iconst (n := 120) k dX5_splits_119 rfl ?_
    refine v_upV (n := 123) k [0, 2, 3, 4, 13] 0 (z_X5_unlike (n := 2) (a := spF C h e) (b := spB C h e) rfl (by omega) w4 rfl hlt.1 hle hR.2.2.2.2.2.1 (fun j hj => by
  rw [lo_at hj]
  show (if spF C h e ≤ j ∧ j < spB C h e then x9 else En j) < 256
  split
  · omega
  · exact hR.2.2.2.2.2.1 j) (fun i hi => by
  rw [lo_at hi]
  show (if spF C h e ≤ i ∧ i < spB C h e then x9 else En i) = En i ↔ _
  by_cases r9 : spF C h e ≤ i ∧ i < spB C h e
  · rw [if_pos r9]
    exact ⟨fun z => absurd (by rw [← hR.2.1 i hi]; exact z.symm) (visB_no q5 i hi), fun z => absurd r9 z⟩
  · rw [if_neg r9]
    exact ⟨fun _ => r9, fun _ => rfl⟩) hR.2.2.2.2.1) miX5_unlike ml_X5_160 (by decide) (by decide) rfl (by decide) rfl rfl rfl rfl (Nat.le_of_ble_eq_true rfl) ⟨Nat.zero_le _, Nat.zero_le _⟩ dX5_splits_120 rfl ?_
    rintro _ _ ⟨rfl, rfl⟩
    dsimp only [wput, List.set, Option.toList, List.nil_append, List.cons_append]
    refine v_put (n := 126) k ciX5 0 25 (by decide) fl_X5_124 rfl rfl (rfl) (rfl) (Nat.le_of_ble_eq_true rfl) dX5_splits_123 rfl ?_
    refine v_ws (ws' := [oM hm r th pg lg wt al 0 (C 0) (pF (C 0)) tp an (2 + dpO (spF C h e) (spB C h e)), aB cB (r 0) 65536 (Cm), aN cI (r 1) 256 (Dr), aN cI (r 2) 65536 (En), aN cI (r 3) 65536 (lo (fun i => if spF C h e ≤ i ∧ i < spB C h e then x9 else En i) Ot (2 ^ C 0)), aZ cZ (r 4) 256 (Ib), aN cI (r 5) 256 (Bd), aN cI (r 6) 256 (Mn), aN cI (r 7) 23040 (q).1, aN cI (r 8) 23040 (q).2.1, aL cJ (r 9) 46080 (q).2.2.1, aL cJ (r 10) 92160 (q).2.2.2, aN cI (r 13) 256 (Ou), aN cI (r 14) 256 (ulC (upN (upN Cg 0 p) 1 x9) Dr 2 (spF C h e) (dpO (spF C h e) (spB C h e)))]) (by rfl) ?_
    refine v_aload_n (n := 127) k dX5_splits_126 rfl rfl ?_
    refine v_get (n := 130) k ciX5 0 25 (by decide) fl_X5_124 rfl rfl dX5_splits_127 rfl ?_
    refine v_aload_n (n := 131) k dX5_splits_130 rfl rfl ?_
    refine v_get (n := 134) k ciX5 0 3 (by decide) fl_X5_72 rfl rfl dX5_splits_131 rfl ?_
    refine v_icmp_le (n := 137) (t := 139) k (⟨by omega, by omega⟩) (⟨by omega, by omega⟩) dX5_splits_134 (by decide) rfl (fun c_134 => ?_) (fun c_134 => ?_)
    · refine v_iconst (n := 140) k dX5_splits_139 rfl ?_
      refine v_istore (n := 142) k dX5_splits_140 rfl (by decide) rfl rfl ?_
      have e0 := lo_0 (lo (fun i => if spF C h e ≤ i ∧ i < spB C h e then x9 else En i) Ot (2 ^ C 0)) En
      refine v_ws (ws' := [oM hm r th pg lg wt al 0 (C 0) (pF (C 0)) tp an (2 + dpO (spF C h e) (spB C h e)), aB cB (r 0) 65536 (Cm), aN cI (r 1) 256 (Dr), aN cI (r 2) 65536 (lo (lo (fun i => if spF C h e ≤ i ∧ i < spB C h e then x9 else En i) Ot (2 ^ C 0)) En 0), aN cI (r 3) 65536 (lo (fun i => if spF C h e ≤ i ∧ i < spB C h e then x9 else En i) Ot (2 ^ C 0)), aZ cZ (r 4) 256 (Ib), aN cI (r 5) 256 (Bd), aN cI (r 6) 256 (Mn), aN cI (r 7) 23040 (q).1, aN cI (r 8) 23040 (q).2.1, aL cJ (r 9) 46080 (q).2.2.1, aL cJ (r 10) 92160 (q).2.2.2, aN cI (r 13) 256 (Ou), aN cI (r 14) 256 (ulC (upN (upN Cg 0 p) 1 x9) Dr 2 (spF C h e) (dpO (spF C h e) (spB C h e)))]) (by rw [e0]) ?_
      refine lp_X5_splits2 k hF ?_ (2 ^ C 0 + 1) 0 _ (by omega) (by omega) rfl
      refine v_aload_n (n := 174) k dX5_splits_173 rfl rfl ?_
      refine v_get (n := 177) k ciX5 0 12 (by decide) fl_X5_28 rfl rfl dX5_splits_174 rfl ?_
      refine v_iload_n (n := 178) k dX5_splits_177 rfl rfl ?_
      refine v_iconst (n := 179) k dX5_splits_178 rfl ?_
      refine v_zastN (n := 180) k 5 3 (x9) rfl rfl (by omega) (by omega) (by omega) (true) (rfl) dX5_splits_179 rfl ?_
      refine v_aload_n (n := 181) k dX5_splits_180 rfl rfl ?_
      refine v_get (n := 184) k ciX5 0 13 (by decide) fl_X5_32 rfl rfl dX5_splits_181 rfl ?_
      refine v_iload_n (n := 185) k dX5_splits_184 rfl rfl ?_
      refine v_iload_n (n := 186) k dX5_splits_185 rfl rfl ?_
      refine v_iconst (n := 187) k dX5_splits_186 rfl ?_
      refine v_iadd (n := 188) k dX5_splits_187 rfl ?_
      refine v_iastN (n := 189) k 6 0 (p) rfl rfl (by omega) (by omega) (by omega) (e + 1) (by omega) dX5_splits_188 rfl ?_
      refine v_aload_n (n := 190) k dX5_splits_189 rfl rfl ?_
      refine v_get (n := 193) k ciX5 0 13 (by decide) fl_X5_32 rfl rfl dX5_splits_190 rfl ?_
      refine v_iload_n (n := 194) k dX5_splits_193 rfl rfl ?_
      refine v_iload_n (n := 195) k dX5_splits_194 rfl rfl ?_
      refine v_iconst (n := 196) k dX5_splits_195 rfl ?_
      refine v_iadd (n := 197) k dX5_splits_196 rfl ?_
      refine v_iastN (n := 198) k 6 0 (x9) rfl rfl (by omega) (by omega) (by omega) (e + 1) (by omega) dX5_splits_197 rfl ?_
      refine v_aload_n (n := 199) k dX5_splits_198 rfl rfl ?_
      refine v_get (n := 202) k ciX5 0 14 (by decide) fl_X5_35 rfl rfl dX5_splits_199 rfl ?_
      refine v_iload_n (n := 203) k dX5_splits_202 rfl rfl ?_
      refine v_iconst (n := 204) k dX5_splits_203 rfl ?_
      refine v_iastN (n := 205) k 7 0 (x9) rfl rfl (by omega) (by omega) (by omega) (0) (rfl) dX5_splits_204 rfl ?_
      refine v_iconst (n := 206) k dX5_splits_205 rfl ?_
      refine v_istore (n := 208) k dX5_splits_206 rfl (by decide) rfl rfl ?_
      refine v_ws (ws' := [oM hm r th pg lg wt al 0 (C 0) (pF (C 0)) tp an (2 + dpO (spF C h e) (spB C h e)), aB cB (r 0) 65536 (Cm), aN cI (r 1) 256 (Dr), aN cI (r 2) 65536 (lo (lo (fun i => if spF C h e ≤ i ∧ i < spB C h e then x9 else En i) Ot (2 ^ C 0)) En (2 ^ C 0)), aN cI (r 3) 65536 (lo (fun i => if spF C h e ≤ i ∧ i < spB C h e then x9 else En i) Ot (2 ^ C 0)), aZ cZ (r 4) 256 (upB Ib x9 true), aN cI (r 5) 256 (upN (upN Bd p (e + 1)) x9 (e + 1)), aN cI (r 6) 256 (upN Mn x9 0), aN cI (r 7) 23040 (q).1, aN cI (r 8) 23040 (q).2.1, aL cJ (r 9) 46080 (q).2.2.1, aL cJ (r 10) 92160 (q).2.2.2, aN cI (r 13) 256 (Ou), aN cI (r 14) 256 (ulC (upN (upN Cg 0 p) 1 x9) Dr 2 (spF C h e) (dpO (spF C h e) (spB C h e)))]) (by rfl) ?_
      refine lp_X5_splits3 (p := p) (e := e) (x9 := x9) k hP (by omega) (by omega) hpx (by omega) (by omega) hm84 (fun R9 Mn9 q9 hI9 => ?_) (pb C p 1 + 1) 0 _ (upN Mn x9 0) q (by omega) (by omega) rfl (SPI.new hRB hR.2.2.2.2.2.2.2.2 hpx)
      have hlg : ¬ lg < 2 + dpO (spF C h e) (spB C h e) := by omega
      have hch9 : CHG C (spC C p h x9) pg lg := by
        have := sp_chg hF hh (h := h) (by rw [← hp, ← he]; exact hD) hY1 (by rw [← hp, ← he]; exact hlg)
        rw [← hp] at this
        exact this
      have hEn : ∀ i, i < 2 ^ C 0 → (lo (lo (fun i => if spF C h e ≤ i ∧ i < spB C h e then x9 else En i) Ot (2 ^ C 0)) En (2 ^ C 0)) i = if spF C h e ≤ i ∧ i < spB C h e then x9 else entN C i := fun i hi => by
        rw [lo_at hi, lo_at hi]
        show (if spF C h e ≤ i ∧ i < spB C h e then x9 else En i) = _
        rw [hR.2.1 i hi]
      have hE9 : ∀ j, (lo (lo (fun i => if spF C h e ≤ i ∧ i < spB C h e then x9 else En i) Ot (2 ^ C 0)) En (2 ^ C 0)) j < 256 := lo_lt (fun j hj => by
        rw [lo_at hj]
        show (if spF C h e ≤ j ∧ j < spB C h e then x9 else En j) < 256
        split
        · omega
        · exact hR.2.2.2.2.2.1 j) hR.2.2.2.2.2.1
      have hG9 : GB Dr (lo (lo (fun i => if spF C h e ≤ i ∧ i < spB C h e then x9 else En i) Ot (2 ^ C 0)) En (2 ^ C 0)) (upN (upN Bd p (e + 1)) x9 (e + 1)) Mn9 q9 := ⟨hR.2.2.2.2.1, hE9, upN_lt (upN_lt hR.2.2.2.2.2.2.1 (by omega)) (by omega), hI9.mn84 (Nat.le_refl _) (by omega) hm84, hI9.1⟩
      have hC9 : ∀ j, (ulC (upN (upN Cg 0 p) 1 x9) Dr 2 (spF C h e) (dpO (spF C h e) (spB C h e))) j < 256 := ulC_lt (upN_lt (upN_lt hGc (by omega)) (by omega)) hR.2.2.2.2.1 _ _ _
      have hT9 : TEL (C 0) (pF (C 0)) Dr (lo (lo (fun i => if spF C h e ≤ i ∧ i < spB C h e then x9 else En i) Ot (2 ^ C 0)) En (2 ^ C 0)) (upN (upN Bd p (e + 1)) x9 (e + 1)) Mn9 q9 (ulC (upN (upN Cg 0 p) 1 x9) Dr 2 (spF C h e) (dpO (spF C h e) (spB C h e))) (spC C p h x9) := sp_tel hF hh hp he hD hY1 hlg hR hI9 hEn
      have hr9 := sp_rm hF hh hp he hD hY1 hlg hR hI9 hEn hG9
      have hl9 : 2 + dpO (spF C h e) (spB C h e) = (spC C p h x9).length := by
        unfold spC
        rw [List.length_cons, List.length_cons, rtL_len, ← he]
        omega
      refine v_aload_n (n := 289) k dX5_splits_288 rfl rfl ?_
      refine v_upV (n := 292) k [0, 1, 2, 3, 5, 6, 7, 8, 9, 10, 11, 12, 13] 0 (z_X5_changed (chs := spC C p h x9) (C := C) (by omega) (by omega) w2 w7 hG9 hC9 hl9 hch9.1 hT9 hA hal (fun a9 h9 => by
  rcases hch9.run hF hj h9 with ⟨-, h1, h2⟩ | ⟨h1, -⟩
  · have e9 : a9.1 0 = C 0 := by
      rw [h2.hd (by decide)]
      have hr8 := sp_rth hF hh (h := h) (by rw [← hp, ← he]; exact hD) hY1 (by rw [← hp, ← he]; exact hlg)
      have := rt_h0 hF hr8
      rw [← hp] at this
      exact this
    rw [e9]
    exact ⟨rfl, rfl, hr9.ag hch9.2.2.2 h2⟩
  · cases h1) (fun a9 h9 => by
  rcases hch9.run hF hj h9 with ⟨h1, -⟩ | ⟨-, h1⟩
  · cases h1
  · exact h1.2.2.2.ok h1.1)) miX5_changed ml_X5_156 (by decide) (by decide) rfl (by decide) rfl rfl rfl rfl (Nat.le_of_ble_eq_true rfl) ⟨Nat.zero_le _, Nat.zero_le _⟩ dX5_splits_289 rfl ?_
      rintro _ _ ⟨a9, s9, Cm9, Ou9, Dr9, En9, Ib8, Bd9, Mn8, q8, hst, rfl, hA9, hal9, hRM9, rfl⟩
      dsimp only [wput, List.set, Option.toList, List.nil_append, List.cons_append]
      refine v_iretU k hq ?_ rfl dX5_splits_292
      refine PST_mk ⟨a9, s9, Cm9, Dr9, En9, _, Ib8, Bd9, Mn8, q8, Ou9, _, _, ?_, rfl, ⟨hA9, hal9, hRM9, hC9⟩, rfl⟩
      unfold sSpl
      rw [show frN (C, wt, al, (0 : Int)).1 pg lg 0 = some x9 from hY1]
      refine Eq.trans (if_neg (by show ¬ lg < 2 + dpO (spF C h (pb C p 0)) (spB C h (pb C p 0)); rw [← he]; exact hlg)) ?_
      rw [← hst]
      rfl
    · refine v_iconst (n := 138) k dX5_splits_137 rfl ?_
      refine v_iretU k hq ?_ rfl dX5_splits_138
      refine PST_mk ⟨(C, wt, al, 0), 2, Cm, Dr, En, _, Ib, Bd, Mn, q, Ou, _, _, ?_, rfl, ⟨hA, hal, hR, ulC_lt (upN_lt (upN_lt hGc (by omega)) (by omega)) hR.2.2.2.2.1 _ _ _⟩, rfl⟩
      unfold sSpl
      rw [show frN (C, wt, al, (0 : Int)).1 pg lg 0 = some x9 from hY1]
      exact if_pos (by show lg < 2 + dpO (spF C h (pb C p 0)) (spB C h (pb C p 0)); rw [← he]; omega)
  · have hY : frN C pg lg 0 = none := by
      rcases hfi with ⟨z, z1, z2⟩ | ⟨z1, z2⟩
      · omega
      · exact z1
    refine v_iconst (n := 24) k dX5_splits_23 rfl ?_
    refine v_iretU k hq ?_ rfl dX5_splits_24
    refine PST_mk ⟨(C, wt, al, 0), 1, Cm, Dr, En, Ot, Ib, Bd, Mn, q, Ou, Cg, ch, ?_, rfl, ⟨hA, hal, hR, hGc⟩, rfl⟩
    unfold sSpl
    rw [show frN (C, wt, al, (0 : Int)).1 pg lg 0 = none from hY]
