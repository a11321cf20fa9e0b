/-- the reference's state over the disk a -/
def RI (pg lg : Nat) (a : DA) (Cm Dr En : Nat → Nat) (Ib : Nat → Bool) (Bd Mn : Nat → Nat) (q : RQ) (Cg : Nat → Nat) : Prop := AGP pg Cm a.1 ∧ in32 a.2.2.1 ∧ RM a.1 lg Dr En Ib Bd Mn q ∧ ∀ j, Cg j < 256
/-- what a step of the reference leaves -/
def PST (cI cB cJ cZ : ClassId) (hm : Nat) (r : Nat → Nat) (th : Int) (pg lg tp an : Nat) (F : Int × DA) : Option Value → va_W → Prop := fun v w1 => ∃ (a9 : DA) (s9 : Int) (Cm9 Dr9 En9 Ot9 : Nat → Nat) (Ib9 : Nat → Bool) (Bd9 Mn9 : Nat → Nat) (q9 : RQ) (Ou9 Cg9 : Nat → Nat) (ch9 : Nat), F = (s9, a9) ∧ v = some (.int (iI s9)) ∧ RI pg lg a9 Cm9 Dr9 En9 Ib9 Bd9 Mn9 q9 Cg9 ∧ w1 = [oM hm r th pg lg (a9).2.1 (a9).2.2.1 (a9).2.2.2 ((a9).1 0) (pF ((a9).1 0)) tp an ch9, aB cB (r 0) 65536 (Cm9), aN cI (r 1) 256 (Dr9), aN cI (r 2) 65536 (En9), aN cI (r 3) 65536 (Ot9), aZ cZ (r 4) 256 (Ib9), aN cI (r 5) 256 (Bd9), aN cI (r 6) 256 (Mn9), aN cI (r 7) 23040 (q9).1, aN cI (r 8) 23040 (q9).2.1, aL cJ (r 9) 46080 (q9).2.2.1, aL cJ (r 10) 92160 (q9).2.2.2, aN cI (r 13) 256 (Ou9), aN cI (r 14) 256 (Cg9)]
theorem PST_mk {cI cB cJ cZ : ClassId} {hm : Nat} {r : Nat → Nat} {th : Int} {pg lg tp an : Nat} {F : Int × DA} {v : Option Value} {w1 : va_W} (h : ∃ (a9 : DA) (s9 : Int) (Cm9 Dr9 En9 Ot9 : Nat → Nat) (Ib9 : Nat → Bool) (Bd9 Mn9 : Nat → Nat) (q9 : RQ) (Ou9 Cg9 : Nat → Nat) (ch9 : Nat), F = (s9, a9) ∧ v = some (.int (iI s9)) ∧ RI pg lg a9 Cm9 Dr9 En9 Ib9 Bd9 Mn9 q9 Cg9 ∧ w1 = [oM hm r th pg lg (a9).2.1 (a9).2.2.1 (a9).2.2.2 ((a9).1 0) (pF ((a9).1 0)) tp an ch9, aB cB (r 0) 65536 (Cm9), aN cI (r 1) 256 (Dr9), aN cI (r 2) 65536 (En9), aN cI (r 3) 65536 (Ot9), aZ cZ (r 4) 256 (Ib9), aN cI (r 5) 256 (Bd9), aN cI (r 6) 256 (Mn9), aN cI (r 7) 23040 (q9).1, aN cI (r 8) 23040 (q9).2.1, aL cJ (r 9) 46080 (q9).2.2.1, aL cJ (r 10) 92160 (q9).2.2.2, aN cI (r 13) 256 (Ou9), aN cI (r 14) 256 (Cg9)]) : PST cI cB cJ cZ hm r th pg lg tp an F v w1 := h
theorem find_congr {n : Nat} {P Q : Nat → Bool} (h : ∀ p, p < n → P p = Q p) : (List.range n).find? P = (List.range n).find? Q := by
  induction n with
  | zero => rfl
  | succ n ih =>
    rw [List.range_succ, List.find?_append, List.find?_append, ih (fun p hp => h p (by omega)), List.find?_cons, List.find?_cons, h n (by omega)]
    rfl
theorem frP_kd {C : Nat → Nat} {lg p a : Nat} {Dr En : Nat → Nat} {Ib : Nat → Bool} {Bd Mn : Nat → Nat} {q : RQ} (hR : RM C lg Dr En Ib Bd Mn q) (hp : p < 256) : frP Ib Dr (pF (C 0)) lg a p = (decide (a ≤ p) && kdN C lg p == 0) := by
  unfold frP
  rw [hR.2.2.1 p hp, dirM_B hR.1]
  congr 1
  by_cases h2 : lg + 2 ≤ p
  · rw [decide_eq_true h2]
    cases hd : dirB C (pF (C 0)) p with
    | true => rw [kd_4 h2 hd]; rfl
    | false =>
      by_cases h5 : kdN C lg p = 5
      · rw [h5]; rfl
      · rw [kd_0 h2 hd h5]; rfl
  · rw [decide_eq_false h2]
    have : kdN C lg p ≠ 0 := fun z => h2 (kd0_no z).1
    rw [beq_false_of_ne this]
    rfl
theorem frM_N {C : Nat → Nat} {pg lg a : Nat} {Dr En : Nat → Nat} {Ib : Nat → Bool} {Bd Mn : Nat → Nat} {q : RQ} (hR : RM C lg Dr En Ib Bd Mn q) (hpg : pg ≤ 255) : frM Ib Dr (pF (C 0)) pg lg a = frN C pg lg a := find_congr (fun p hp => frP_kd hR (by omega))
theorem frN_lg (C : Nat → Nat) (pg lg : Nat) : frN C pg lg (lg + 2) = frN C pg lg 0 := find_congr (fun p hp => by
  by_cases h : kdN C lg p = 0
  · rw [h, decide_eq_true (kd0_no h).1, decide_eq_true (Nat.zero_le p)]
  · rw [beq_false_of_ne h, Bool.and_false, Bool.and_false])
theorem fr_none {C : Nat → Nat} {pg lg t a : Nat} (h : t = (freeL C pg lg).length) (ha : (t = 0 ∧ a = 0) ∨ (0 < t ∧ a = (freeL C pg lg).getD (t - 1) 0 + 1)) : frN C pg lg a = none := by
  have asc := List.pairwise_iff_getElem.mp (freeL_asc C pg lg)
  have e1 : frN C pg lg a = (freeL C pg lg).find? (fun q => decide (a ≤ q)) := by
    unfold frN freeL
    rw [List.find?_filter]
    congr 1
    funext q
    rw [Bool.and_comm]
    simp
    rfl
  rw [e1]
  refine List.find?_eq_none.mpr (fun p hp => ?_)
  obtain ⟨j, hj, rfl⟩ := List.getElem_of_mem hp
  rcases ha with ⟨h0, -⟩ | ⟨h0, ha⟩
  · omega
  · have e3 : (freeL C pg lg).getD (t - 1) 0 = (freeL C pg lg)[t - 1]'(by omega) := by rw [List.getD_eq_getElem?_getD, List.getElem?_eq_getElem (by omega)]; rfl
    have h9 : ¬ a ≤ (freeL C pg lg)[j] := by
      rcases Nat.lt_or_ge j (t - 1) with g | g
      · have := asc j (t - 1) hj (by omega) g
        omega
      · have : j = t - 1 := by omega
        subst this
        omega
    simp [h9]
theorem RM.dr {C : Nat → Nat} {lg : Nat} {Dr Dr' En : Nat → Nat} {Ib : Nat → Bool} {Bd Mn : Nat → Nat} {q : RQ} (hR : RM C lg Dr En Ib Bd Mn q) (h : ∀ k, k < pF (C 0) → Dr' k = Dr k) (hD : ∀ j, Dr' j < 256) : RM C lg Dr' En Ib Bd Mn q := ⟨fun k hk => by rw [h k hk]; exact hR.1 k hk, hR.2.1, hR.2.2.1, hR.2.2.2.1, hD, hR.2.2.2.2.2⟩
theorem upN_lt {g : Nat → Nat} {k v b : Nat} (hg : ∀ j, g j < b) (hv : v < b) : ∀ j, upN g k v j < b := by
  intro j
  rw [upN_at]
  split
  · exact hv
  · exact hg j
theorem sRes_0 {a a9 : DA} {pg lg q : Nat} {s9 : Int} (h1 : ¬ cntK a.1 lg 0 pg + pF (a.1 0) < pF q) (h2 : ¬ lg < pF q + 1) (h : stC (sChg a (rzC a.1 pg lg q)) = (s9, a9)) : sRes a pg lg q = (s9, a9) := by
  unfold sRes
  rw [if_neg h1, if_neg h2, ← h]
  rfl
set_option maxHeartbeats 1000000 in
set_option maxRecDepth 20000 in
theorem lp_X5_doubles2 {D : va_G} {cI cB cJ cZ : ClassId} {x : Kx} {hm : Nat} {r : Nat → Nat} {th : Int} {pg lg : Nat} {wt al : Int} {tp an ch : Nat} {C : Nat → Nat} {Cm Dr En Ot : Nat → Nat} {Ib : Nat → Bool} {Bd Mn : Nat → Nat} {q : RQ} {Ou Cg : Nat → Nat} {G F : Int} (k : Kf x cX5_doubles 5 yX5_doubles.cls (some .int) D (TY cI cB cJ cZ) ({ frames := 4, cells := 0, slots := 0, locals := 90 })) {A : Nat → Prop} (hF9 : FULL C pg lg) (hk9 : Vw x 5 A D true 0 0 [oM hm r th pg lg wt al 0 (C 0) (pF (C 0)) tp an ch, aB cB (r 0) 65536 (Cm), aN cI (r 1) 256 (Dr), aN cI (r 2) 65536 (En), aN cI (r 3) 65536 (lo (fun i => En (i / 2)) Ot (2 ^ (C 0 + 1))), aZ cZ (r 4) 256 (Ib), aN cI (r 5) 256 (Bd), aN cI (r 6) 256 (Mn), aN cI (r 7) 23040 (q).1, aN cI (r 8) 23040 (q).2.1, aL cJ (r 9) 46080 (q).2.2.1, aL cJ (r 10) 92160 (q).2.2.2, aN cI (r 13) 256 (Ou), aN cI (r 14) 256 (Cg)] 114 [(0, .ref hm), (1, .int (iI ((pF (C 0 + 1) : Nat) : Int))), (2, .int (iI G)), (3, .int (iI F)), (4, .int (iI ((2 ^ (C 0 + 1) : Nat) : Int)))] []) : ∀ (m : Nat) (i : Nat) (I : Int), 2 ^ (C 0 + 1) < i + m → i ≤ 2 ^ (C 0 + 1) → I = (i : Int) → Vw x 5 A D true 0 0 [oM hm r th pg lg wt al 0 (C 0) (pF (C 0)) tp an ch, aB cB (r 0) 65536 (Cm), aN cI (r 1) 256 (Dr), aN cI (r 2) 65536 (En), aN cI (r 3) 65536 (lo (fun i => En (i / 2)) Ot i), aZ cZ (r 4) 256 (Ib), aN cI (r 5) 256 (Bd), aN cI (r 6) 256 (Mn), aN cI (r 7) 23040 (q).1, aN cI (r 8) 23040 (q).2.1, aL cJ (r 9) 46080 (q).2.2.1, aL cJ (r 10) 92160 (q).2.2.2, aN cI (r 13) 256 (Ou), aN cI (r 14) 256 (Cg)] 81 [(0, .ref hm), (1, .int (iI ((pF (C 0 + 1) : Nat) : Int))), (2, .int (iI G)), (3, .int (iI F)), (4, .int (iI I))] [] := by
  intro m
  induction m with
  | zero => intro i I hm9 hi e1; omega
  | succ m ih =>
    intro i I hm9 hi e1
    have hF := hF9
    obtain ⟨w1, w2, w3, w4, w5, w6, w7⟩ := id hF.1.1
    have h14 := hF.1.2.2.2
    have h15 : 2 ^ C 0 ≤ 2 ^ 14 := Nat.pow_le_pow_right (by decide) h14
    have h15b : (2 : Nat) ^ 14 = 16384 := by decide
    have h16 : 0 < 2 ^ C 0 := Nat.pow_pos (by decide)
    have hpf := pF_le15 w4
    have hps : 2 ^ (C 0 + 1) = 2 * 2 ^ C 0 := Nat.pow_succ'
    have hpq := pF_le15 (d := C 0 + 1) (by omega)
    refine v_iload (n := 83) k dX5_doubles_81 rfl rfl ?_
    refine v_iconst (n := 84) k dX5_doubles_83 rfl ?_
    refine v_aload_n (n := 85) k dX5_doubles_84 rfl rfl ?_
    refine v_get (n := 88) k ciX5 0 7 (by decide) fl_X5_95 rfl rfl dX5_doubles_85 rfl ?_
    refine v_ishl (n := 89) k (((2 * 2 ^ C 0 : Nat) : Int)) (ax_shl rfl rfl (by omega) (by omega)) dX5_doubles_88 rfl ?_
    refine v_icmp_ge (n := 92) (t := 114) k (⟨by omega, by omega⟩) (⟨by omega, by omega⟩) dX5_doubles_89 (by decide) rfl (fun c_89 => ?_) (fun c_89 => ?_)
    · have e8 : i = 2 ^ (C 0 + 1) := by omega
      rw [show I = ((2 ^ (C 0 + 1) : Nat) : Int) by omega, e8]
      exact hk9
    · refine v_aload_n (n := 93) k dX5_doubles_92 rfl rfl ?_
      refine v_get (n := 96) k ciX5 0 11 (by decide) fl_X5_25 rfl rfl dX5_doubles_93 rfl ?_
      refine v_iload (n := 98) k dX5_doubles_96 rfl rfl ?_
      refine v_aload_n (n := 99) k dX5_doubles_98 rfl rfl ?_
      refine v_get (n := 102) k ciX5 0 10 (by decide) fl_X5_22 rfl rfl dX5_doubles_99 rfl ?_
      refine v_iload (n := 104) k dX5_doubles_102 rfl rfl ?_
      refine v_iconst (n := 105) k dX5_doubles_104 rfl ?_
      refine v_idiv (n := 106) k (((i / 2 : Nat) : Int)) (ax_ne0 (by omega) (by omega)) (ax_div e1 rfl (by omega) (by omega) (by omega)) dX5_doubles_105 rfl ?_
      refine v_ialdN (n := 107) k 3 0 (i / 2) rfl rfl (by omega) (by omega) (by omega) dX5_doubles_106 rfl ?_
      refine v_iastN (n := 108) k 4 0 (i) rfl rfl (by omega) (by omega) (by omega) (En (i / 2)) (rfl) dX5_doubles_107 rfl ?_
      rw [lo_s (f := fun i => En (i / 2)) rfl]
      refine v_iinc (n := 111) k dX5_doubles_108 rfl (by decide) rfl rfl rfl ?_
      refine v_goto (t := 81) k dX5_doubles_111 (by decide) ?_
      exact ih (i + 1) _ (by omega) (by omega) (by omega)
set_option maxHeartbeats 1000000 in
set_option maxRecDepth 20000 in
theorem lp_X5_doubles3 {D : va_G} {cI cB cJ cZ : ClassId} {x : Kx} {hm : Nat} {r : Nat → Nat} {th : Int} {pg lg : Nat} {wt al : Int} {tp an ch : Nat} {C : Nat → Nat} {Cm Dr En Ot : Nat → Nat} {Ib : Nat → Bool} {Bd Mn : Nat → Nat} {q : RQ} {Ou Cg : Nat → Nat} {G F : Int} (k : Kf x cX5_doubles 5 yX5_doubles.cls (some .int) D (TY cI cB cJ cZ) ({ frames := 4, cells := 0, slots := 0, locals := 90 })) {A : Nat → Prop} (hF9 : FULL C pg lg) (hk9 : Vw x 5 A D true 0 0 [oM hm r th pg lg wt al 0 (C 0 + 1) (pF (C 0 + 1)) tp an ch, aB cB (r 0) 65536 (Cm), aN cI (r 1) 256 (Dr), aN cI (r 2) 65536 (lo Ot En (2 ^ (C 0 + 1))), aN cI (r 3) 65536 (Ot), aZ cZ (r 4) 256 (Ib), aN cI (r 5) 256 (Bd), aN cI (r 6) 256 (Mn), aN cI (r 7) 23040 (q).1, aN cI (r 8) 23040 (q).2.1, aL cJ (r 9) 46080 (q).2.2.1, aL cJ (r 10) 92160 (q).2.2.2, aN cI (r 13) 256 (Ou), aN cI (r 14) 256 (Cg)] 163 [(0, .ref hm), (1, .int (iI ((pF (C 0 + 1) : Nat) : Int))), (2, .int (iI G)), (3, .int (iI F)), (4, .int (iI ((2 ^ (C 0 + 1) : Nat) : Int)))] []) : ∀ (m : Nat) (i : Nat) (I : Int), 2 ^ (C 0 + 1) < i + m → i ≤ 2 ^ (C 0 + 1) → I = (i : Int) → Vw x 5 A D true 0 0 [oM hm r th pg lg wt al 0 (C 0 + 1) (pF (C 0 + 1)) tp an ch, aB cB (r 0) 65536 (Cm), aN cI (r 1) 256 (Dr), aN cI (r 2) 65536 (lo Ot En i), aN cI (r 3) 65536 (Ot), aZ cZ (r 4) 256 (Ib), aN cI (r 5) 256 (Bd), aN cI (r 6) 256 (Mn), aN cI (r 7) 23040 (q).1, aN cI (r 8) 23040 (q).2.1, aL cJ (r 9) 46080 (q).2.2.1, aL cJ (r 10) 92160 (q).2.2.2, aN cI (r 13) 256 (Ou), aN cI (r 14) 256 (Cg)] 132 [(0, .ref hm), (1, .int (iI ((pF (C 0 + 1) : Nat) : Int))), (2, .int (iI G)), (3, .int (iI F)), (4, .int (iI I))] [] := by
  intro m
  induction m with
  | zero => intro i I hm9 hi e1; omega
  | succ m ih =>
    intro i I hm9 hi e1
    have hF := hF9
    obtain ⟨w1, w2, w3, w4, w5, w6, w7⟩ := id hF.1.1
    have h14 := hF.1.2.2.2
    have h15 : 2 ^ C 0 ≤ 2 ^ 14 := Nat.pow_le_pow_right (by decide) h14
    have h15b : (2 : Nat) ^ 14 = 16384 := by decide
    have h16 : 0 < 2 ^ C 0 := Nat.pow_pos (by decide)
    have hpf := pF_le15 w4
    have hps : 2 ^ (C 0 + 1) = 2 * 2 ^ C 0 := Nat.pow_succ'
    have hpq := pF_le15 (d := C 0 + 1) (by omega)
    refine v_iload (n := 134) k dX5_doubles_132 rfl rfl ?_
    refine v_iconst (n := 135) k dX5_doubles_134 rfl ?_
    refine v_aload_n (n := 136) k dX5_doubles_135 rfl rfl ?_
    refine v_get (n := 139) k ciX5 0 7 (by decide) fl_X5_95 rfl rfl dX5_doubles_136 rfl ?_
    refine v_ishl (n := 140) k (((2 ^ (C 0 + 1) : Nat) : Int)) (by have h9 := ax_shl (a := 1) (d := C 0 + 1) rfl rfl (by omega) (by omega); rw [Nat.one_mul] at h9; exact h9) dX5_doubles_139 rfl ?_
    refine v_icmp_ge (n := 143) (t := 163) k (⟨by omega, by omega⟩) (⟨by omega, by omega⟩) dX5_doubles_140 (by decide) rfl (fun c_140 => ?_) (fun c_140 => ?_)
    · have e8 : i = 2 ^ (C 0 + 1) := by omega
      rw [show I = ((2 ^ (C 0 + 1) : Nat) : Int) by omega, e8]
      exact hk9
    · refine v_aload_n (n := 144) k dX5_doubles_143 rfl rfl ?_
      refine v_get (n := 147) k ciX5 0 10 (by decide) fl_X5_22 rfl rfl dX5_doubles_144 rfl ?_
      refine v_iload (n := 149) k dX5_doubles_147 rfl rfl ?_
      refine v_aload_n (n := 150) k dX5_doubles_149 rfl rfl ?_
      refine v_get (n := 153) k ciX5 0 11 (by decide) fl_X5_25 rfl rfl dX5_doubles_150 rfl ?_
      refine v_iload (n := 155) k dX5_doubles_153 rfl rfl ?_
      refine v_ialdN (n := 156) k 4 0 (i) rfl rfl (by omega) (by omega) (by omega) dX5_doubles_155 rfl ?_
      refine v_iastN (n := 157) k 3 0 (i) rfl rfl (by omega) (by omega) (by omega) (Ot i) (rfl) dX5_doubles_156 rfl ?_
      rw [lo_s (f := Ot) rfl]
      refine v_iinc (n := 160) k dX5_doubles_157 rfl (by decide) rfl rfl rfl ?_
      refine v_goto (t := 132) k dX5_doubles_160 (by decide) ?_
      exact ih (i + 1) _ (by omega) (by omega) (by omega)
set_option maxHeartbeats 1000000 in
set_option maxRecDepth 20000 in
theorem lp_X5_doubles4 {D : va_G} {cI cB cJ cZ : ClassId} {x : Kx} {hm : Nat} {r : Nat → Nat} {th : Int} {pg lg : Nat} {wt al : Int} {tp an ch : Nat} {C : Nat → Nat} {Cm Dr En Ot : Nat → Nat} {Ib : Nat → Bool} {Bd Mn : Nat → Nat} {q : RQ} {Ou Cg : Nat → Nat} {G F : Int} (k : Kf x cX5_doubles 5 yX5_doubles.cls (some .int) D (TY cI cB cJ cZ) ({ frames := 4, cells := 0, slots := 0, locals := 90 })) {A : Nat → Prop} (hF9 : FULL C pg lg) (hk9 : Vw x 5 A D true 0 0 [oM hm r th pg lg wt al 0 (C 0 + 1) (pF (C 0 + 1)) tp an ch, aB cB (r 0) 65536 (Cm), aN cI (r 1) 256 (Dr), aN cI (r 2) 65536 (En), aN cI (r 3) 65536 (Ot), aZ cZ (r 4) 256 (Ib), aN cI (r 5) 256 (Bd), aN cI (r 6) 256 (Mn), aN cI (r 7) 23040 (q).1, aN cI (r 8) 23040 (q).2.1, aL cJ (r 9) 46080 (q).2.2.1, aL cJ (r 10) 92160 (q).2.2.2, aN cI (r 13) 256 (Ou), aN cI (r 14) 256 (lo Dr Cg (pF (C 0 + 1)))] 195 [(0, .ref hm), (1, .int (iI ((pF (C 0 + 1) : Nat) : Int))), (2, .int (iI G)), (3, .int (iI F)), (4, .int (iI ((pF (C 0 + 1) : Nat) : Int)))] []) : ∀ (m : Nat) (i : Nat) (I : Int), pF (C 0 + 1) < i + m → i ≤ pF (C 0 + 1) → I = (i : Int) → Vw x 5 A D true 0 0 [oM hm r th pg lg wt al 0 (C 0 + 1) (pF (C 0 + 1)) tp an ch, aB cB (r 0) 65536 (Cm), aN cI (r 1) 256 (Dr), aN cI (r 2) 65536 (En), aN cI (r 3) 65536 (Ot), aZ cZ (r 4) 256 (Ib), aN cI (r 5) 256 (Bd), aN cI (r 6) 256 (Mn), aN cI (r 7) 23040 (q).1, aN cI (r 8) 23040 (q).2.1, aL cJ (r 9) 46080 (q).2.2.1, aL cJ (r 10) 92160 (q).2.2.2, aN cI (r 13) 256 (Ou), aN cI (r 14) 256 (lo Dr Cg i)] 166 [(0, .ref hm), (1, .int (iI ((pF (C 0 + 1) : Nat) : Int))), (2, .int (iI G)), (3, .int (iI F)), (4, .int (iI I))] [] := by
  intro m
  induction m with
  | zero => intro i I hm9 hi e1; omega
  | succ m ih =>
    intro i I hm9 hi e1
    have hF := hF9
    obtain ⟨w1, w2, w3, w4, w5, w6, w7⟩ := id hF.1.1
    have h14 := hF.1.2.2.2
    have h15 : 2 ^ C 0 ≤ 2 ^ 14 := Nat.pow_le_pow_right (by decide) h14
    have h15b : (2 : Nat) ^ 14 = 16384 := by decide
    have h16 : 0 < 2 ^ C 0 := Nat.pow_pos (by decide)
    have hpf := pF_le15 w4
    have hps : 2 ^ (C 0 + 1) = 2 * 2 ^ C 0 := Nat.pow_succ'
    have hpq := pF_le15 (d := C 0 + 1) (by omega)
    refine v_iload (n := 168) k dX5_doubles_166 rfl rfl ?_
    refine v_aload_n (n := 169) k dX5_doubles_168 rfl rfl ?_
    refine v_get (n := 172) k ciX5 0 8 (by decide) fl_X5_98 rfl rfl dX5_doubles_169 rfl ?_
    refine v_icmp_ge (n := 175) (t := 195) k (⟨by omega, by omega⟩) (⟨by omega, by omega⟩) dX5_doubles_172 (by decide) rfl (fun c_172 => ?_) (fun c_172 => ?_)
    · have e8 : i = pF (C 0 + 1) := by omega
      rw [show I = ((pF (C 0 + 1) : Nat) : Int) by omega, e8]
      exact hk9
    · refine v_aload_n (n := 176) k dX5_doubles_175 rfl rfl ?_
      refine v_get (n := 179) k ciX5 0 24 (by decide) fl_X5_62 rfl rfl dX5_doubles_176 rfl ?_
      refine v_iload (n := 181) k dX5_doubles_179 rfl rfl ?_
      refine v_aload_n (n := 182) k dX5_doubles_181 rfl rfl ?_
      refine v_get (n := 185) k ciX5 0 9 (by decide) fl_X5_18 rfl rfl dX5_doubles_182 rfl ?_
      refine v_iload (n := 187) k dX5_doubles_185 rfl rfl ?_
      refine v_ialdN (n := 188) k 2 0 (i) rfl rfl (by omega) (by omega) (by omega) dX5_doubles_187 rfl ?_
      refine v_iastN (n := 189) k 13 0 (i) rfl rfl (by omega) (by omega) (by omega) (Dr i) (rfl) dX5_doubles_188 rfl ?_
      rw [lo_s (f := Dr) rfl]
      refine v_iinc (n := 192) k dX5_doubles_189 rfl (by decide) rfl rfl rfl ?_
      refine v_goto (t := 166) k dX5_doubles_192 (by decide) ?_
      exact ih (i + 1) _ (by omega) (by omega) (by omega)
theorem v_lvf4a {x : Kx} {nL : Nat} {D : va_G} {A : Nat → Prop} {wr : Bool} {cells slots : Nat} {ws : va_W} {pc : Nat} {a b c d e : Nat × Value} {st : List Value} (h : Vw x nL A D wr cells slots ws pc [a, b, c, d] st) : Vw x nL A D wr cells slots ws pc [a, b, c, d, e] st := by
  intro H locs ls h1 h2 h3 h4
  refine h H locs ls h1 h2 h3 ⟨h4.1, h4.2.1, fun z hz => h4.2.2 z ?_⟩
  simp only [List.mem_cons, List.not_mem_nil, or_false] at hz ⊢
  rcases hz with h | h | h | h
  · exact Or.inl h
  · exact Or.inr (Or.inl h)
  · exact Or.inr (Or.inr (Or.inl h))
  · exact Or.inr (Or.inr (Or.inr (Or.inl h)))
set_option maxHeartbeats 1000000 in
set_option maxRecDepth 20000 in
theorem lp_X5_doubles1 {D : va_G} {cI cB cJ cZ : ClassId} {x : Kx} {hm : Nat} {r : Nat → Nat} {th : Int} {pg lg : Nat} {wt al : Int} {tp an ch : Nat} {C : Nat → Nat} {Cm Dr0 En Ot : Nat → Nat} {Ib : Nat → Bool} {Bd Mn : Nat → Nat} {q : RQ} {Ou Cg : Nat → Nat} (k : Kf x cX5_doubles 5 yX5_doubles.cls (some .int) D (TY cI cB cJ cZ) ({ frames := 4, cells := 0, slots := 0, locals := 90 })) (hq : isU x D [hm, r 0, r 1, r 2, r 3, r 4, r 5, r 6, r 7, r 8, r 9, r 10, r 13, r 14] (PST cI cB cJ cZ hm r th pg lg tp an (sRes (C, wt, al, 0) pg lg (C 0 + 1)))) (hF : FULL C pg lg) (hj : pb C 1 0 = 0) (hA : AGP pg Cm C) (hal : in32 al) (hGc : ∀ j, Cg j < 256) (hR : RM C lg Dr0 En Ib Bd Mn q) : ∀ (m : Nat) (t : Nat) (G F : Int) (Dr : Nat → Nat), pF (C 0 + 1) < pF (C 0) + t + m → pF (C 0) + t ≤ pF (C 0 + 1) → G = ((pF (C 0) + t : Nat) : Int) → ((t = 0 ∧ F = (lg : Int) + 2) ∨ (0 < t ∧ F = (((freeL C pg lg).getD (t - 1) 0 + 1 : Nat) : Int))) → t ≤ (freeL C pg lg).length → (∀ k, k < pF (C 0) + t → Dr k = plN C pg lg k) → (∀ j, Dr j < 256) → Vw x 5 (fun q => q ∈ [hm, r 0, r 1, r 2, r 3, r 4, r 5, r 6, r 7, r 8, r 9, r 10, r 13, r 14]) D true 0 0 [oM hm r th pg lg wt al 0 (C 0) (pF (C 0)) tp an ch, aB cB (r 0) 65536 (Cm), aN cI (r 1) 256 (Dr), aN cI (r 2) 65536 (En), aN cI (r 3) 65536 (Ot), aZ cZ (r 4) 256 (Ib), aN cI (r 5) 256 (Bd), aN cI (r 6) 256 (Mn), aN cI (r 7) 23040 (q).1, aN cI (r 8) 23040 (q).2.1, aL cJ (r 9) 46080 (q).2.2.1, aL cJ (r 10) 92160 (q).2.2.2, aN cI (r 13) 256 (Ou), aN cI (r 14) 256 (Cg)] 27 [(0, .ref hm), (1, .int (iI ((pF (C 0 + 1) : Nat) : Int))), (2, .int (iI G)), (3, .int (iI F))] [] := by
  intro m
  induction m with
  | zero => intro t G F Dr hm9 ht e1 e2 hlt e3 e4; omega
  | succ m ih =>
    intro t G F Dr hm9 ht e1 e2 hlt e3 e4
    obtain ⟨w1, w2, w3, w4, w5, w6, w7⟩ := id hF.1.1
    have h14 := hF.1.2.2.2
    have h15 : 2 ^ C 0 ≤ 2 ^ 14 := Nat.pow_le_pow_right (by decide) h14
    have h15b : (2 : Nat) ^ 14 = 16384 := by decide
    have h16 : 0 < 2 ^ C 0 := Nat.pow_pos (by decide)
    have hpf := pF_le15 w4
    have hps : 2 ^ (C 0 + 1) = 2 * 2 ^ C 0 := Nat.pow_succ'
    have hpq := pF_le15 (d := C 0 + 1) (by omega)
    have hR0 := hR
    replace hR : RM C lg Dr En Ib Bd Mn q := hR0.dr (fun k hk => by rw [e3 k (by omega), hR0.1 k hk]; unfold plN; rw [if_pos hk, pb0]) e4
    have hfl := freeL_len C lg pg
    have hcnt : (freeL C pg lg).length ≤ pg := by rw [hfl]; exact cntK_le C lg 0 pg
    refine v_iload_n (n := 28) k dX5_doubles_27 rfl rfl ?_
    refine v_iload_n (n := 29) k dX5_doubles_28 rfl rfl ?_
    refine v_icmp_ge (n := 32) (t := 66) k (⟨by omega, by omega⟩) (⟨by omega, by omega⟩) dX5_doubles_29 (by decide) rfl (fun c_29 => ?_) (fun c_29 => ?_)
    · refine v_iload_n (n := 67) k dX5_doubles_66 rfl rfl ?_
      refine v_iconst (n := 68) k dX5_doubles_67 rfl ?_
      refine v_iadd (n := 69) k dX5_doubles_68 rfl ?_
      refine v_aload_n (n := 70) k dX5_doubles_69 rfl rfl ?_
      refine v_get (n := 73) k ciX5 0 3 (by decide) fl_X5_72 rfl rfl dX5_doubles_70 rfl ?_
      refine v_icmp_le (n := 76) (t := 78) k (⟨by omega, by omega⟩) (⟨by omega, by omega⟩) dX5_doubles_73 (by decide) rfl (fun c_73 => ?_) (fun c_73 => ?_)
      · refine v_iconst (n := 79) k dX5_doubles_78 rfl ?_
        refine v_istore (n := 81) k dX5_doubles_79 rfl (by decide) rfl rfl ?_
        have e0 := lo_0 (fun i => En (i / 2)) Ot
        refine v_ws (ws' := [oM hm r th pg lg wt al 0 (C 0) (pF (C 0)) tp an ch, aB cB (r 0) 65536 (Cm), aN cI (r 1) 256 (Dr), aN cI (r 2) 65536 (En), aN cI (r 3) 65536 (lo (fun i => En (i / 2)) Ot 0), aZ cZ (r 4) 256 (Ib), aN cI (r 5) 256 (Bd), aN cI (r 6) 256 (Mn), aN cI (r 7) 23040 (q).1, aN cI (r 8) 23040 (q).2.1, aL cJ (r 9) 46080 (q).2.2.1, aL cJ (r 10) 92160 (q).2.2.2, aN cI (r 13) 256 (Ou), aN cI (r 14) 256 (Cg)]) (by rw [e0]) ?_
        refine lp_X5_doubles2 k hF ?_ (2 ^ (C 0 + 1) + 1) 0 _ (by omega) (by omega) rfl
        refine v_aload_n (n := 115) k dX5_doubles_114 rfl rfl ?_
        refine v_dup (n := 116) k rfl dX5_doubles_115 rfl ?_
        refine v_get (n := 119) k ciX5 0 7 (by decide) fl_X5_95 rfl rfl dX5_doubles_116 rfl ?_
        refine v_iconst (n := 120) k dX5_doubles_119 rfl ?_
        refine v_iadd (n := 121) k dX5_doubles_120 rfl ?_
        refine v_put (n := 124) k ciX5 0 7 (by decide) fl_X5_95 rfl rfl (rfl) (rfl) (Nat.le_of_ble_eq_true rfl) dX5_doubles_121 rfl ?_
        refine v_aload_n (n := 125) k dX5_doubles_124 rfl rfl ?_
        refine v_iload_n (n := 126) k dX5_doubles_125 rfl rfl ?_
        refine v_put (n := 129) k ciX5 0 8 (by decide) fl_X5_98 rfl rfl (rfl) (rfl) (Nat.le_of_ble_eq_true rfl) dX5_doubles_126 rfl ?_
        refine v_ws (ws' := [oM hm r th pg lg wt al 0 (C 0 + 1) (pF (C 0 + 1)) tp an ch, aB cB (r 0) 65536 (Cm), aN cI (r 1) 256 (Dr), aN cI (r 2) 65536 (En), aN cI (r 3) 65536 (lo (fun i => En (i / 2)) Ot (2 ^ (C 0 + 1))), aZ cZ (r 4) 256 (Ib), aN cI (r 5) 256 (Bd), aN cI (r 6) 256 (Mn), aN cI (r 7) 23040 (q).1, aN cI (r 8) 23040 (q).2.1, aL cJ (r 9) 46080 (q).2.2.1, aL cJ (r 10) 92160 (q).2.2.2, aN cI (r 13) 256 (Ou), aN cI (r 14) 256 (Cg)]) (by rfl) ?_
        refine v_iconst (n := 130) k dX5_doubles_129 rfl ?_
        refine v_istore (n := 132) k dX5_doubles_130 rfl (by decide) rfl rfl ?_
        have e0 := lo_0 (lo (fun i => En (i / 2)) Ot (2 ^ (C 0 + 1))) En
        refine v_ws (ws' := [oM hm r th pg lg wt al 0 (C 0 + 1) (pF (C 0 + 1)) tp an ch, aB cB (r 0) 65536 (Cm), aN cI (r 1) 256 (Dr), aN cI (r 2) 65536 (lo (lo (fun i => En (i / 2)) Ot (2 ^ (C 0 + 1))) En 0), aN cI (r 3) 65536 (lo (fun i => En (i / 2)) Ot (2 ^ (C 0 + 1))), aZ cZ (r 4) 256 (Ib), aN cI (r 5) 256 (Bd), aN cI (r 6) 256 (Mn), aN cI (r 7) 23040 (q).1, aN cI (r 8) 23040 (q).2.1, aL cJ (r 9) 46080 (q).2.2.1, aL cJ (r 10) 92160 (q).2.2.2, aN cI (r 13) 256 (Ou), aN cI (r 14) 256 (Cg)]) (by rw [e0]) ?_
        refine lp_X5_doubles3 k hF ?_ (2 ^ (C 0 + 1) + 1) 0 _ (by omega) (by omega) rfl
        refine v_iconst (n := 164) k dX5_doubles_163 rfl ?_
        refine v_istore (n := 166) k dX5_doubles_164 rfl (by decide) rfl rfl ?_
        have e0 := lo_0 Dr Cg
        refine v_ws (ws' := [oM hm r th pg lg wt al 0 (C 0 + 1) (pF (C 0 + 1)) tp an ch, aB cB (r 0) 65536 (Cm), aN cI (r 1) 256 (Dr), aN cI (r 2) 65536 (lo (lo (fun i => En (i / 2)) Ot (2 ^ (C 0 + 1))) En (2 ^ (C 0 + 1))), aN cI (r 3) 65536 (lo (fun i => En (i / 2)) Ot (2 ^ (C 0 + 1))), aZ cZ (r 4) 256 (Ib), aN cI (r 5) 256 (Bd), aN cI (r 6) 256 (Mn), aN cI (r 7) 23040 (q).1, aN cI (r 8) 23040 (q).2.1, aL cJ (r 9) 46080 (q).2.2.1, aL cJ (r 10) 92160 (q).2.2.2, aN cI (r 13) 256 (Ou), aN cI (r 14) 256 (lo Dr Cg 0)]) (by rw [e0]) ?_
        refine lp_X5_doubles4 k hF ?_ (pF (C 0 + 1) + 1) 0 _ (by omega) (by omega) rfl
        refine v_aload_n (n := 196) k dX5_doubles_195 rfl rfl ?_
        refine v_get (n := 199) k ciX5 0 24 (by decide) fl_X5_62 rfl rfl dX5_doubles_196 rfl ?_
        refine v_aload_n (n := 200) k dX5_doubles_199 rfl rfl ?_
        refine v_get (n := 203) k ciX5 0 8 (by decide) fl_X5_98 rfl rfl dX5_doubles_200 rfl ?_
        refine v_iconst (n := 204) k dX5_doubles_203 rfl ?_
        refine v_iastN (n := 205) k 13 0 (pF (C 0 + 1)) rfl rfl (by omega) (by omega) (by omega) (0) (rfl) dX5_doubles_204 rfl ?_
        refine v_aload_n (n := 206) k dX5_doubles_205 rfl rfl ?_
        refine v_aload_n (n := 207) k dX5_doubles_206 rfl rfl ?_
        refine v_get (n := 210) k ciX5 0 8 (by decide) fl_X5_98 rfl rfl dX5_doubles_207 rfl ?_
        refine v_iconst (n := 211) k dX5_doubles_210 rfl ?_
        refine v_iadd (n := 212) k dX5_doubles_211 rfl ?_
        refine v_put (n := 215) k ciX5 0 25 (by decide) fl_X5_124 rfl rfl (rfl) (rfl) (Nat.le_of_ble_eq_true rfl) dX5_doubles_212 rfl ?_
        have hz : RZH C pg lg (C 0 + 1) := ⟨Or.inl rfl, by omega, by omega⟩
        have hch9 := rz_chg hF hz
        have hDr : ∀ k, k < pF (C 0 + 1) → Dr k = plN C pg lg k := fun k hk => e3 k (by omega)
        have hEn : ∀ i, i < 2 ^ (C 0 + 1) → (lo (lo (fun i => En (i / 2)) Ot (2 ^ (C 0 + 1))) En (2 ^ (C 0 + 1))) i = eN C (C 0 + 1) i := fun i hi => by
          rw [lo_at hi, lo_at hi]
          show En (i / 2) = _
          unfold eN
          rw [if_pos (by omega)]
          exact hR.2.1 _ (by omega)
        have hE9 : ∀ j, (lo (lo (fun i => En (i / 2)) Ot (2 ^ (C 0 + 1))) En (2 ^ (C 0 + 1))) j < 256 := lo_lt (fun j hj => by rw [lo_at hj]; exact hR.2.2.2.2.2.1 _) hR.2.2.2.2.2.1
        have hG9 : GB Dr (lo (lo (fun i => En (i / 2)) Ot (2 ^ (C 0 + 1))) En (2 ^ (C 0 + 1))) Bd Mn q := ⟨e4, hE9, hR.2.2.2.2.2.2⟩
        have hC9 : ∀ j, (upN (lo Dr Cg (pF (C 0 + 1))) (pF (C 0 + 1)) 0) j < 256 := upN_lt (lo_lt (fun j _ => e4 j) hGc) (by decide)
        have hT9 : TEL (C 0 + 1) (pF (C 0 + 1)) Dr (lo (lo (fun i => En (i / 2)) Ot (2 ^ (C 0 + 1))) En (2 ^ (C 0 + 1))) Bd Mn q (upN (lo Dr Cg (pF (C 0 + 1))) (pF (C 0 + 1)) 0) (rzC C pg lg (C 0 + 1)) := rz_tel hF hz hDr hEn (fun k hk => by rw [upN_at, if_neg (by omega)]; exact lo_at hk) (by exact if_pos rfl)
        have hr9 := rz_rm hF hz hR hDr e4 hEn hE9
        have hl9 : pF (C 0 + 1) + 1 = (rzC C pg lg (C 0 + 1)).length := by unfold rzC; rw [List.length_append, rzL_len]; rfl
        refine v_ws (ws' := [oM hm r th pg lg wt al 0 (C 0 + 1) (pF (C 0 + 1)) tp an (pF (C 0 + 1) + 1), aB cB (r 0) 65536 (Cm), aN cI (r 1) 256 (Dr), aN cI (r 2) 65536 (lo (lo (fun i => En (i / 2)) Ot (2 ^ (C 0 + 1))) En (2 ^ (C 0 + 1))), aN cI (r 3) 65536 (lo (fun i => En (i / 2)) Ot (2 ^ (C 0 + 1))), aZ cZ (r 4) 256 (Ib), aN cI (r 5) 256 (Bd), aN cI (r 6) 256 (Mn), aN cI (r 7) 23040 (q).1, aN cI (r 8) 23040 (q).2.1, aL cJ (r 9) 46080 (q).2.2.1, aL cJ (r 10) 92160 (q).2.2.2, aN cI (r 13) 256 (Ou), aN cI (r 14) 256 (upN (lo Dr Cg (pF (C 0 + 1))) (pF (C 0 + 1)) 0)]) (by rfl) ?_
        refine v_aload_n (n := 216) k dX5_doubles_215 rfl rfl ?_
        refine v_upV (n := 219) k [0, 1, 2, 3, 5, 6, 7, 8, 9, 10, 11, 12, 13] 0 (z_X5_changed (chs := rzC C pg lg (C 0 + 1)) (C := C) (by omega) (by omega) w2 w7 hG9 hC9 hl9 hch9.1 hT9 hA hal (fun a9 h9 => by
  rcases hch9.run hF hj h9 with ⟨-, h1, h2⟩ | ⟨h1, -⟩
  · have e9 : a9.1 0 = C 0 + 1 := by
      rw [h2.hd (by decide), rz_hd hF hz (by decide)]
      rfl
    rw [e9]
    exact ⟨rfl, rfl, hr9.ag (rz_full hF hz) h2⟩
  · cases h1) (fun a9 h9 => by
  rcases hch9.run hF hj h9 with ⟨h1, -⟩ | ⟨-, h1⟩
  · cases h1
  · exact h1.2.2.2.ok h1.1)) miX5_changed ml_X5_156 (by decide) (by decide) rfl (by decide) rfl rfl rfl rfl (Nat.le_of_ble_eq_true rfl) ⟨Nat.zero_le _, Nat.zero_le _⟩ dX5_doubles_216 rfl ?_
        rintro _ _ ⟨a9, s9, Cm9, Ou9, Dr9, En9, Ib9, Bd9, Mn9, q9, hst, rfl, hA9, hal9, hRM9, rfl⟩
        dsimp only [wput, List.set, Option.toList, List.nil_append, List.cons_append]
        refine v_iretU k hq ?_ rfl dX5_doubles_219
        refine PST_mk ⟨a9, s9, Cm9, Dr9, En9, _, Ib9, Bd9, Mn9, q9, Ou9, _, _, sRes_0 (by show ¬ cntK C lg 0 pg + pF (C 0) < _; omega) (by omega) hst, rfl, ⟨hA9, hal9, hRM9, hC9⟩, rfl⟩
      · refine v_iconst (n := 77) k dX5_doubles_76 rfl ?_
        refine v_iretU k hq ?_ rfl dX5_doubles_77
        refine PST_mk ⟨(C, wt, al, 0), 2, Cm, Dr, En, Ot, Ib, Bd, Mn, q, Ou, Cg, ch, ?_, rfl, ⟨hA, hal, hR, hGc⟩, rfl⟩
        unfold sRes
        rw [if_neg (by show ¬ cntK C lg 0 pg + pF (C 0) < _; omega), if_pos (by omega)]
    · have hfb : 0 < t → (freeL C pg lg).getD (t - 1) 0 < pg := fun h0 => (freeL_mem (C := C) (pg := pg) (lg := lg) (t := t - 1) (by omega)).1
      have hfr : frM Ib Dr (pF (C 0)) pg lg (if t = 0 then lg + 2 else (freeL C pg lg).getD (t - 1) 0 + 1) = if t < (freeL C pg lg).length then some ((freeL C pg lg).getD t 0) else none := by
        rw [frM_N hR w2]
        by_cases h0 : t = 0
        · rw [if_pos h0, frN_lg]
          by_cases h1 : t < (freeL C pg lg).length
          · rw [if_pos h1]; exact fr_next h1 (Or.inl ⟨h0, rfl⟩)
          · rw [if_neg h1]; exact fr_none (by omega) (Or.inl ⟨h0, rfl⟩)
        · rw [if_neg h0]
          by_cases h1 : t < (freeL C pg lg).length
          · rw [if_pos h1]; exact fr_next h1 (Or.inr ⟨by omega, rfl⟩)
          · rw [if_neg h1]; exact fr_none (by omega) (Or.inr ⟨by omega, rfl⟩)
      refine v_aload_n (n := 33) k dX5_doubles_32 rfl rfl ?_
      refine v_iload_n (n := 34) k dX5_doubles_33 rfl rfl ?_
      refine v_rdVi (n := 37) k [0, 5, 2] 0 (z_X5_free (a := if t = 0 then lg + 2 else (freeL C pg lg).getD (t - 1) 0 + 1) (by split <;> omega) (by split <;> omega) w2 w7 (by omega) e4) miX5_free ml_X5_153 (by decide) (by decide) rfl (by decide) rfl rfl rfl rfl (Nat.le_of_ble_eq_true rfl) ⟨Nat.zero_le _, Nat.zero_le _⟩ dX5_doubles_34 rfl ?_
      rw [hfr]
      have hfm : t < (freeL C pg lg).length → (freeL C pg lg).getD t 0 < pg := fun h0 => (freeL_mem h0).1
      have hfi : (t < (freeL C pg lg).length ∧ fdI (if t < (freeL C pg lg).length then some ((freeL C pg lg).getD t 0) else none) = (((freeL C pg lg).getD t 0 : Nat) : Int)) ∨ (¬ t < (freeL C pg lg).length ∧ fdI (if t < (freeL C pg lg).length then some ((freeL C pg lg).getD t 0) else none) = -1) := by
        by_cases h1 : t < (freeL C pg lg).length
        · rw [if_pos h1]; exact Or.inl ⟨h1, rfl⟩
        · rw [if_neg h1]; exact Or.inr ⟨h1, rfl⟩
      generalize fdI (if t < (freeL C pg lg).length then some ((freeL C pg lg).getD t 0) else none) = Y at hfi ⊢
      refine v_istore (n := 39) k dX5_doubles_37 rfl (by decide) rfl rfl ?_
      refine v_iload (n := 41) k dX5_doubles_39 rfl rfl ?_
      refine v_iconst (n := 42) k dX5_doubles_41 rfl ?_
      refine v_icmp_ne (n := 45) (t := 47) k (⟨by omega, by omega⟩) (⟨by omega, by omega⟩) dX5_doubles_42 (by decide) rfl (fun c_42 => ?_) (fun c_42 => ?_)
      · have hY : t < (freeL C pg lg).length ∧ Y = (((freeL C pg lg).getD t 0 : Nat) : Int) := by omega
        obtain ⟨hY1, rfl⟩ := hY
        refine v_aload_n (n := 48) k dX5_doubles_47 rfl rfl ?_
        refine v_get (n := 51) k ciX5 0 9 (by decide) fl_X5_18 rfl rfl dX5_doubles_48 rfl ?_
        refine v_iload_n (n := 52) k dX5_doubles_51 rfl rfl ?_
        refine v_iload (n := 54) k dX5_doubles_52 rfl rfl ?_
        refine v_iastN (n := 55) k 2 0 (pF (C 0) + t) rfl rfl (by omega) (by omega) (by omega) ((freeL C pg lg).getD t 0) (rfl) dX5_doubles_54 rfl ?_
        refine v_iinc (n := 58) k dX5_doubles_55 rfl (by decide) rfl rfl rfl ?_
        refine v_iload (n := 60) k dX5_doubles_58 rfl rfl ?_
        refine v_iconst (n := 61) k dX5_doubles_60 rfl ?_
        refine v_iadd (n := 62) k dX5_doubles_61 rfl ?_
        refine v_istore_n (n := 63) k dX5_doubles_62 rfl (by decide) rfl rfl ?_
        refine v_goto (t := 27) k dX5_doubles_63 (by decide) ?_
        refine v_lvf4a ?_
        refine ih (t + 1) _ _ _ (by omega) (by omega) (by omega) (Or.inr ⟨by omega, by rw [show t + 1 - 1 = t by omega]; rfl⟩) (by omega) (fun k hk => ?_) (upN_lt e4 (by have := hfm hY1; omega))
        rw [upN_at]
        by_cases ek : k = pF (C 0) + t
        · rw [if_pos ek, ek]
          unfold plN
          rw [if_neg (by omega), show pF (C 0) + t - pF (C 0) = t by omega]
        · rw [if_neg ek]
          exact e3 k (by omega)
      · refine v_iconst (n := 46) k dX5_doubles_45 rfl ?_
        refine v_iretU k hq ?_ rfl dX5_doubles_46
        refine PST_mk ⟨(C, wt, al, 0), 1, Cm, Dr, En, Ot, Ib, Bd, Mn, q, Ou, Cg, ch, ?_, rfl, ⟨hA, hal, hR, hGc⟩, rfl⟩
        unfold sRes
        rw [if_pos (by show cntK C lg 0 pg + pF (C 0) < _; omega)]
theorem pF_s (d : Nat) : pF d ≤ pF (d + 1) := by
  unfold pF
  by_cases h : d + 1 ≤ 8
  · rw [if_pos (by omega), if_pos h]
    exact Nat.le_refl _
  · rw [if_neg h]
    split
    · exact Nat.pow_pos (by decide)
    · exact Nat.pow_le_pow_right (by decide) (by omega)
set_option maxHeartbeats 1000000 in
set_option maxRecDepth 20000 in
theorem z_X5_doubles {D : va_G} {cI cB cJ cZ : ClassId} {hm : Nat} {r : Nat → Nat} {th : Int} {pg lg : Nat} {wt al : Int} {tp an ch : Nat} {C : Nat → Nat} {Cm Dr En Ot : Nat → Nat} {Ib : Nat → Bool} {Bd Mn : Nat → Nat} {q : RQ} {Ou Cg : Nat → Nat} (hF : FULL C pg lg) (hj : pb C 1 0 = 0) (hA : AGP pg Cm C) (hal : in32 al) (hGc : ∀ j, Cg j < 256) (hR : RM C lg Dr En Ib Bd Mn q) : ∀ l, Up l yX5_doubles cX5_doubles 5 (some .int) ({ frames := 4, cells := 0, slots := 0, locals := 90 }) D (TY cI cB cJ cZ) [.ref hm] [oM hm r th pg lg wt al 0 (C 0) (pF (C 0)) tp an ch, aB cB (r 0) 65536 (Cm), aN cI (r 1) 256 (Dr), aN cI (r 2) 65536 (En), aN cI (r 3) 65536 (Ot), aZ cZ (r 4) 256 (Ib), aN cI (r 5) 256 (Bd), aN cI (r 6) 256 (Mn), aN cI (r 7) 23040 (q).1, aN cI (r 8) 23040 (q).2.1, aL cJ (r 9) 46080 (q).2.2.1, aL cJ (r 10) 92160 (q).2.2.2, aN cI (r 13) 256 (Ou), aN cI (r 14) 256 (Cg)] (PST cI cB cJ cZ hm r th pg lg tp an (sRes (C, wt, al, 0) pg lg (C 0 + 1))) := by
  intro l
  refine Up_of (by decide) (Nat.le_of_ble_eq_true rfl) (fun x k hq => ?_)
  obtain ⟨w1, w2, w3, w4, w5, w6, w7⟩ := id hF.1.1
  have h14 := hF.1.2.2.2
  have h15 : 2 ^ C 0 ≤ 2 ^ 14 := Nat.pow_le_pow_right (by decide) h14
  have h15b : (2 : Nat) ^ 14 = 16384 := by decide
  have h16 : 0 < 2 ^ C 0 := Nat.pow_pos (by decide)
  have hpf := pF_le15 w4
  have hps : 2 ^ (C 0 + 1) = 2 * 2 ^ C 0 := Nat.pow_succ'
  have hpq := pF_le15 (d := C 0 + 1) (by omega)
  refine v_iconst (n := 1) k dX5_doubles_0 rfl ?_
  refine v_aload_n (n := 2) k dX5_doubles_1 rfl rfl ?_
  refine v_get (n := 5) k ciX5 0 7 (by decide) fl_X5_95 rfl rfl dX5_doubles_2 rfl ?_
  refine v_ishl (n := 6) k (((2 * 2 ^ C 0 : Nat) : Int)) (ax_shl rfl rfl (by omega) (by omega)) dX5_doubles_5 rfl ?_
  refine v_sipush (n := 9) k dX5_doubles_6 (by decide) rfl ?_
  refine v_iadd (n := 10) k dX5_doubles_9 rfl ?_
  refine v_sipush (n := 13) k dX5_doubles_10 (by decide) rfl ?_
  refine v_idiv (n := 14) k (((pF (C 0 + 1) : Nat) : Int)) (ax_ne0 (by omega) (by omega)) (by rw [← pF_div, hps]; exact ax_div (by omega) rfl (by omega) (by omega) (by omega)) dX5_doubles_13 rfl ?_
  refine v_istore_n (n := 15) k dX5_doubles_14 rfl (by decide) rfl rfl ?_
  refine v_aload_n (n := 16) k dX5_doubles_15 rfl rfl ?_
  refine v_get (n := 19) k ciX5 0 8 (by decide) fl_X5_98 rfl rfl dX5_doubles_16 rfl ?_
  refine v_istore_n (n := 20) k dX5_doubles_19 rfl (by decide) rfl rfl ?_
  refine v_aload_n (n := 21) k dX5_doubles_20 rfl rfl ?_
  refine v_get (n := 24) k ciX5 0 3 (by decide) fl_X5_72 rfl rfl dX5_doubles_21 rfl ?_
  refine v_iconst (n := 25) k dX5_doubles_24 rfl ?_
  refine v_iadd (n := 26) k dX5_doubles_25 rfl ?_
  refine v_istore_n (n := 27) k dX5_doubles_26 rfl (by decide) rfl rfl ?_
  exact lp_X5_doubles1 k hq hF hj hA hal hGc hR (pF (C 0 + 1) + 1) 0 _ _ Dr (by omega) (by have := pF_s (C 0); omega) (by omega) (Or.inl ⟨rfl, rfl⟩) (Nat.zero_le _) (fun k hk => by rw [hR.1 k (by omega)]; unfold plN; rw [if_pos (by omega), pb0]) hR.2.2.2.2.1
