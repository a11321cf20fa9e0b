def lvsub (lv : List (Nat × Value)) : List (Nat × Value) → Prop
  | [] => True
  | q :: l => lvget q.1 lv = some q.2 ∧ lvsub lv l
theorem lvsub_all {lv : List (Nat × Value)} : ∀ {l : List (Nat × Value)}, lvsub lv l → ∀ q ∈ l, lvget q.1 lv = some q.2 := by
  intro l
  induction l with
  | nil => intro _ q h; cases h
  | cons r l ih =>
    intro h q hq
    rcases List.mem_cons.mp hq with e | hq
    · rw [e]; exact h.1
    · exact ih h.2 q hq
theorem v_lvf {x : Kx} {nL : Nat} {A : Nat → Prop} {D : va_G} {wr : Bool} {cells slots : Nat} {ws : va_W} {pc : Nat} {lv : List (Nat × Value)} {st : List Value} (lv' : List (Nat × Value)) (h0 : lvsub lv lv') (h : Vw x nL A D wr cells slots ws pc lv' st) : Vw x nL A D wr cells slots ws pc lv st := v_lvs (lvsub_all h0) h
def dirB (C : Nat → Nat) (n p : Nat) : Bool := (List.range n).any (fun k => pb C 0 (1 + k) == p)
def visB (C : Nat → Nat) (n p : Nat) : Bool := (List.range n).any (fun i => entN C i == p)
/-- the kind of a page, by the bytes -/
def kdN (C : Nat → Nat) (lg p : Nat) : Nat := if p = 0 then 1 else if p = 1 then 2 else if p < lg + 2 then 3 else if dirB C (pF (C 0)) p then 4 else if visB C (2 ^ C 0) p then 5 else 0
def KOK (K C : Nat → Nat) (pg lg : Nat) : Prop := (∀ j, K j < 256) ∧ ∀ p, p < pg → K p = kdN C lg p
/-- the kinds that are kept are those of the bytes, or known to be old -/
def KS (ko : Int) (K C : Nat → Nat) (pg lg : Nat) : Prop := (∀ j, K j < 256) ∧ (ko = 1 ∨ (ko = 0 ∧ KOK K C pg lg ∧ (∀ k, k < pF (C 0) → lg + 2 ≤ C (1 + k)) ∧ C 0 ≤ 15))
theorem any_succ (n : Nat) (P : Nat → Bool) : (List.range (n + 1)).any P = ((List.range n).any P || P n) := by
  rw [List.range_succ, List.any_append]
  simp
def I1 (C : Nat → Nat) (pg n : Nat) (K : Nat → Nat) : Prop := (∀ j, K j < 256) ∧ ∀ p, p < pg → K p = if visB C n p then 5 else 0
def I2 (C : Nat → Nat) (pg n : Nat) (K : Nat → Nat) : Prop := (∀ j, K j < 256) ∧ ∀ p, p < pg → K p = if dirB C n p then 4 else if visB C (2 ^ C 0) p then 5 else 0
def I3 (C : Nat → Nat) (pg n : Nat) (K : Nat → Nat) : Prop := (∀ j, K j < 256) ∧ ∀ p, p < pg → K p = if 2 ≤ p ∧ p < 2 + n then 3 else if dirB C (pF (C 0)) p then 4 else if visB C (2 ^ C 0) p then 5 else 0
theorem mkN_lt {K : Nat → Nat} {pg q v : Nat} (h : ∀ j, K j < 256) (hv : v < 256) : ∀ j, mkN K pg q v j < 256 := by
  intro j
  unfold mkN
  split
  · unfold upN
    split
    · exact hv
    · exact h j
  · exact h j
theorem mkN_at {K : Nat → Nat} {pg q v p : Nat} (hp : p < pg) : mkN K pg q v p = if q = p then v else K p := by
  unfold mkN
  by_cases h : q = p
  · subst h
    rw [if_pos hp, if_pos rfl]
    simp [upN]
  · rw [if_neg h]
    split
    · simp only [upN]
      rw [if_neg (fun e => h e.symm)]
    · rfl
theorem I1.step {C K : Nat → Nat} {pg n : Nat} (h : I1 C pg n K) : I1 C pg (n + 1) (mkN K pg (entN C n) 5) := by
  refine ⟨mkN_lt h.1 (by decide), fun p hp => ?_⟩
  rw [mkN_at hp, h.2 p hp]
  unfold visB
  rw [any_succ]
  by_cases e : entN C n = p
  · rw [if_pos e]
    simp [e]
  · rw [if_neg e]
    have : (entN C n == p) = false := beq_false_of_ne e
    rw [this, Bool.or_false]
theorem I2.step {C K : Nat → Nat} {pg n : Nat} (h : I2 C pg n K) : I2 C pg (n + 1) (mkN K pg (pb C 0 (1 + n)) 4) := by
  refine ⟨mkN_lt h.1 (by decide), fun p hp => ?_⟩
  rw [mkN_at hp, h.2 p hp]
  unfold dirB
  rw [any_succ]
  by_cases e : pb C 0 (1 + n) = p
  · rw [if_pos e]
    simp [e]
  · rw [if_neg e]
    have : (pb C 0 (1 + n) == p) = false := beq_false_of_ne e
    rw [this, Bool.or_false]
theorem I3.step {C K : Nat → Nat} {pg n : Nat} (h : I3 C pg n K) : I3 C pg (n + 1) (mkN K pg (2 + n) 3) := by
  refine ⟨mkN_lt h.1 (by decide), fun p hp => ?_⟩
  rw [mkN_at hp, h.2 p hp]
  by_cases e : 2 + n = p
  · rw [if_pos e, if_pos (by omega)]
  · rw [if_neg e]
    by_cases e2 : 2 ≤ p ∧ p < 2 + n
    · rw [if_pos e2, if_pos (show 2 ≤ p ∧ p < 2 + (n + 1) by omega)]
    · rw [if_neg e2, if_neg (show ¬ (2 ≤ p ∧ p < 2 + (n + 1)) by omega)]
theorem I3.done {C K : Nat → Nat} {pg lg : Nat} (h : I3 C pg lg K) : KOK (mkN (mkN K pg 1 2) pg 0 1) C pg lg := by
  refine ⟨mkN_lt (mkN_lt h.1 (by decide)) (by decide), fun p hp => ?_⟩
  rw [mkN_at hp, mkN_at hp, h.2 p hp]
  unfold kdN
  by_cases e0 : p = 0
  · rw [if_pos e0.symm, if_pos e0]
  · rw [if_neg (fun e => e0 e.symm), if_neg e0]
    by_cases e1 : p = 1
    · rw [if_pos e1.symm, if_pos e1]
    · rw [if_neg (fun e => e1 e.symm), if_neg e1]
      by_cases e2 : p < lg + 2
      · rw [if_pos (by omega), if_pos e2]
      · rw [if_neg (by omega), if_neg e2]
theorem pF_mul {d k : Nat} (h : k < pF d) : k * 256 + min (2 ^ d) 256 = min ((k + 1) * 256) (2 ^ d) := by
  unfold pF at h
  split at h
  · rename_i h8
    have h1 : 2 ^ d ≤ 2 ^ 8 := Nat.pow_le_pow_right (by decide) h8
    have h2 : (2 : Nat) ^ 8 = 256 := by decide
    omega
  · rename_i h8
    have e : 2 ^ d = 256 * 2 ^ (d - 8) := by
      rw [show (256 : Nat) = 2 ^ 8 from rfl, ← Nat.pow_add]
      congr 1
      omega
    omega
theorem pF_all (d : Nat) : min (pF d * 256) (2 ^ d) = 2 ^ d := by
  unfold pF
  split
  · rename_i h8
    have h1 : 2 ^ d ≤ 2 ^ 8 := Nat.pow_le_pow_right (by decide) h8
    have h2 : (2 : Nat) ^ 8 = 256 := by decide
    omega
  · rename_i h8
    have e : 2 ^ d = 256 * 2 ^ (d - 8) := by
      rw [show (256 : Nat) = 2 ^ 8 from rfl, ← Nat.pow_add]
      congr 1
      omega
    omega
theorem entN_kj (C : Nat → Nat) {k j : Nat} (h : j < 256) : entN C (k * 256 + j) = pb C (pb C 0 (1 + k)) j := by
  unfold entN
  rw [show (k * 256 + j) / 256 = k by omega, show (k * 256 + j) % 256 = j by omega]
theorem dirp_lt {C : Nat → Nat} {pg lg k : Nat} (h : DW C pg lg) (hk : k < pF (C 0)) : pb C 0 (1 + k) < pg := by
  have := h.2.2.2.2.1 k hk
  unfold pb
  rw [Nat.zero_mul, Nat.zero_add]
  exact this
set_option maxHeartbeats 1000000 in
set_option maxRecDepth 20000 in
theorem lp_learn3 {D : va_G} {cI cB cJ cZ : ClassId} {x : Kx} {hd hc hk : Nat} {pg lg : Nat} {wt al dn : Int} {C : Nat → Nat} {E : Int} (k : Kf x cX1_learnKinds 7 yX1_learnKinds.cls none D (TY cI cB cJ cZ) ({ frames := 2, cells := 0, slots := 0, locals := 43 })) (hq : isU x D [hd, hc, hk] (fun r w1 => r = none ∧ ∃ K, KOK K C pg lg ∧ w1 = [oDisk hd hc hk 0 pg lg wt al dn, aN cI hc 65280 C, aN cI hk 255 K])) (hw : DW C pg lg) (hl : lg ≤ 100) : ∀ (m : Nat) (i : Nat) (I : Int) (K : Nat → Nat), lg < i + m → i ≤ lg → I = (i : Int) → I3 C pg i K → Vw x 7 (fun q => q ∈ [hd, hc, hk]) D true 0 0 [oDisk hd hc hk 0 pg lg wt al dn, aN cI hc 65280 C, aN cI hk 255 K] 121 [(0, .ref hd), (1, .int (iI ((C 0 : Nat) : Int))), (2, .int (iI ((pF (C 0) : Nat) : Int))), (3, .int (iI E)), (4, .int (iI I))] [] := by
  intro m
  induction m with
  | zero => intro i I K hm hi e1 hI; omega
  | succ m ih =>
    intro i I K hm hi e1 hI
    obtain ⟨w1, w2, w3, w4, w5, w6, w7⟩ := id hw
    have hpF := pF_lt w4
    have h2p := Nat.two_pow_pos (C 0)
    refine v_iload (n := 123) k dX1_learnKinds_121 rfl rfl ?_
    refine v_aload_n (n := 124) k dX1_learnKinds_123 rfl rfl ?_
    refine v_get (n := 127) k ciX1 0 4 (by decide) fl_X1_23 rfl rfl dX1_learnKinds_124 rfl ?_
    refine v_icmp_ge (n := 130) (t := 145) k (⟨by omega, by omega⟩) (⟨by omega, by omega⟩) dX1_learnKinds_127 (by decide) rfl (fun c_127 => ?_) (fun c_127 => ?_)
    · have e9 : i = lg := by omega
      subst e9
      refine v_aload_n (n := 146) k dX1_learnKinds_145 rfl rfl ?_
      refine v_iconst (n := 147) k dX1_learnKinds_146 rfl ?_
      refine v_iconst (n := 148) k dX1_learnKinds_147 rfl ?_
      refine v_upV (n := 151) k [0, 2] 0 (z_X1_mark (p := 1) (v := 2) rfl rfl (by omega) w2) miX1_mark ml_X1_105 (by decide) (by decide) rfl (by decide) rfl rfl rfl rfl (Nat.le_of_ble_eq_true rfl) ⟨Nat.zero_le _, Nat.zero_le _⟩ dX1_learnKinds_148 rfl ?_
      rintro _ _ ⟨rfl, rfl⟩
      dsimp only [wput, List.set, Option.toList, List.nil_append, List.cons_append]
      refine v_aload_n (n := 152) k dX1_learnKinds_151 rfl rfl ?_
      refine v_iconst (n := 153) k dX1_learnKinds_152 rfl ?_
      refine v_iconst (n := 154) k dX1_learnKinds_153 rfl ?_
      refine v_upV (n := 157) k [0, 2] 0 (z_X1_mark (p := 0) (v := 1) rfl rfl (by omega) w2) miX1_mark ml_X1_105 (by decide) (by decide) rfl (by decide) rfl rfl rfl rfl (Nat.le_of_ble_eq_true rfl) ⟨Nat.zero_le _, Nat.zero_le _⟩ dX1_learnKinds_154 rfl ?_
      rintro _ _ ⟨rfl, rfl⟩
      dsimp only [wput, List.set, Option.toList, List.nil_append, List.cons_append]
      refine v_vretU k hq ?_ rfl dX1_learnKinds_157
      exact ⟨rfl, _, hI.done, rfl⟩
    · refine v_aload_n (n := 131) k dX1_learnKinds_130 rfl rfl ?_
      refine v_iconst (n := 132) k dX1_learnKinds_131 rfl ?_
      refine v_iload (n := 134) k dX1_learnKinds_132 rfl rfl ?_
      refine v_iadd (n := 135) k dX1_learnKinds_134 rfl ?_
      refine v_iconst (n := 136) k dX1_learnKinds_135 rfl ?_
      refine v_upV (n := 139) k [0, 2] 0 (z_X1_mark (p := 2 + i) (v := 3) (by omega) rfl (by omega) w2) miX1_mark ml_X1_105 (by decide) (by decide) rfl (by decide) rfl rfl rfl rfl (Nat.le_of_ble_eq_true rfl) ⟨Nat.zero_le _, Nat.zero_le _⟩ dX1_learnKinds_136 rfl ?_
      rintro _ _ ⟨rfl, rfl⟩
      dsimp only [wput, List.set, Option.toList, List.nil_append, List.cons_append]
      refine v_iinc (n := 142) k dX1_learnKinds_139 rfl (by decide) rfl rfl rfl ?_
      refine v_goto (t := 121) k dX1_learnKinds_142 (by decide) ?_
      exact ih (i + 1) _ _ (by omega) (by omega) (by omega) hI.step
set_option maxHeartbeats 1000000 in
set_option maxRecDepth 20000 in
theorem lp_learn2 {D : va_G} {cI cB cJ cZ : ClassId} {x : Kx} {hd hc hk : Nat} {pg lg : Nat} {wt al dn : Int} {C : Nat → Nat} {E : Int} (k : Kf x cX1_learnKinds 7 yX1_learnKinds.cls none D (TY cI cB cJ cZ) ({ frames := 2, cells := 0, slots := 0, locals := 43 })) (hq : isU x D [hd, hc, hk] (fun r w1 => r = none ∧ ∃ K, KOK K C pg lg ∧ w1 = [oDisk hd hc hk 0 pg lg wt al dn, aN cI hc 65280 C, aN cI hk 255 K])) (hw : DW C pg lg) (hl : lg ≤ 100) : ∀ (m : Nat) (i : Nat) (I : Int) (K : Nat → Nat), pF (C 0) < i + m → i ≤ pF (C 0) → I = (i : Int) → I2 C pg i K → Vw x 7 (fun q => q ∈ [hd, hc, hk]) D true 0 0 [oDisk hd hc hk 0 pg lg wt al dn, aN cI hc 65280 C, aN cI hk 255 K] 92 [(0, .ref hd), (1, .int (iI ((C 0 : Nat) : Int))), (2, .int (iI ((pF (C 0) : Nat) : Int))), (3, .int (iI E)), (4, .int (iI I))] [] := by
  intro m
  induction m with
  | zero => intro i I K hm hi e1 hI; omega
  | succ m ih =>
    intro i I K hm hi e1 hI
    obtain ⟨w1, w2, w3, w4, w5, w6, w7⟩ := id hw
    have hpF := pF_lt w4
    have h2p := Nat.two_pow_pos (C 0)
    refine v_iload (n := 94) k dX1_learnKinds_92 rfl rfl ?_
    refine v_iload_n (n := 95) k dX1_learnKinds_94 rfl rfl ?_
    refine v_icmp_ge (n := 98) (t := 118) k (⟨by omega, by omega⟩) (⟨by omega, by omega⟩) dX1_learnKinds_95 (by decide) rfl (fun c_95 => ?_) (fun c_95 => ?_)
    · refine v_iconst (n := 119) k dX1_learnKinds_118 rfl ?_
      refine v_istore (n := 121) k dX1_learnKinds_119 rfl (by decide) rfl rfl ?_
      have e9 : i = pF (C 0) := by omega
      subst e9
      exact lp_learn3 k hq hw hl (lg + 1) 0 _ _ (by omega) (by omega) rfl ⟨hI.1, fun p hp => by rw [hI.2 p hp, if_neg (show ¬ (2 ≤ p ∧ p < 2 + 0) by omega)]⟩
    · refine v_aload_n (n := 99) k dX1_learnKinds_98 rfl rfl ?_
      refine v_aload_n (n := 100) k dX1_learnKinds_99 rfl rfl ?_
      refine v_iconst (n := 101) k dX1_learnKinds_100 rfl ?_
      refine v_iconst (n := 102) k dX1_learnKinds_101 rfl ?_
      refine v_iload (n := 104) k dX1_learnKinds_102 rfl rfl ?_
      refine v_iadd (n := 105) k dX1_learnKinds_104 rfl ?_
      refine v_rdVi (n := 108) k [0, 1] 0 (z_X1_at (p := 0) (i := 1 + i) rfl (by omega) (by omega) (by omega) w2) miX1_at ml_X1_70 (by decide) (by decide) rfl (by decide) rfl rfl rfl rfl (Nat.le_of_ble_eq_true rfl) ⟨Nat.zero_le _, Nat.zero_le _⟩ dX1_learnKinds_105 rfl ?_
      refine v_iconst (n := 109) k dX1_learnKinds_108 rfl ?_
      refine v_upV (n := 112) k [0, 2] 0 (z_X1_mark (p := pb C 0 (1 + i)) (v := 4) rfl rfl (by have : pb C 0 (1 + i) < 256 := w3 _; exact this) w2) miX1_mark ml_X1_105 (by decide) (by decide) rfl (by decide) rfl rfl rfl rfl (Nat.le_of_ble_eq_true rfl) ⟨Nat.zero_le _, Nat.zero_le _⟩ dX1_learnKinds_109 rfl ?_
      rintro _ _ ⟨rfl, rfl⟩
      dsimp only [wput, List.set, Option.toList, List.nil_append, List.cons_append]
      refine v_iinc (n := 115) k dX1_learnKinds_112 rfl (by decide) rfl rfl rfl ?_
      refine v_goto (t := 92) k dX1_learnKinds_115 (by decide) ?_
      exact ih (i + 1) _ _ (by omega) (by omega) (by omega) hI.step
set_option maxHeartbeats 1000000 in
set_option maxRecDepth 20000 in
theorem lp_learn1i {D : va_G} {cI cB cJ cZ : ClassId} {x : Kx} {hd hc hk : Nat} {pg lg : Nat} {wt al dn : Int} {C : Nat → Nat} {E KI : Int} {kk : Nat} (k : Kf x cX1_learnKinds 7 yX1_learnKinds.cls none D (TY cI cB cJ cZ) ({ frames := 2, cells := 0, slots := 0, locals := 43 })) (hq : isU x D [hd, hc, hk] (fun r w1 => r = none ∧ ∃ K, KOK K C pg lg ∧ w1 = [oDisk hd hc hk 0 pg lg wt al dn, aN cI hc 65280 C, aN cI hk 255 K])) (hw : DW C pg lg) (hl : lg ≤ 100) (hE : E = ((min (2 ^ C 0) 256 : Nat) : Int)) (hkk : kk < pF (C 0)) (hc9 : ∀ K : Nat → Nat, I1 C pg (min ((kk + 1) * 256) (2 ^ C 0)) K → Vw x 7 (fun q => q ∈ [hd, hc, hk]) D true 0 0 [oDisk hd hc hk 0 pg lg wt al dn, aN cI hc 65280 C, aN cI hk 255 K] 38 [(0, .ref hd), (1, .int (iI ((C 0 : Nat) : Int))), (2, .int (iI ((pF (C 0) : Nat) : Int))), (3, .int (iI E)), (4, .int (iI (KI + 1)))] []) : ∀ (m : Nat) (j : Nat) (J : Int) (K : Nat → Nat), min (2 ^ C 0) 256 < j + m → j ≤ min (2 ^ C 0) 256 → J = (j : Int) → I1 C pg (kk * 256 + j) K → Vw x 7 (fun q => q ∈ [hd, hc, hk]) D true 0 0 [oDisk hd hc hk 0 pg lg wt al dn, aN cI hc 65280 C, aN cI hk 255 K] 58 [(0, .ref hd), (1, .int (iI ((C 0 : Nat) : Int))), (2, .int (iI ((pF (C 0) : Nat) : Int))), (3, .int (iI E)), (4, .int (iI KI)), (5, .int (iI ((pb C 0 (1 + kk) : Nat) : Int))), (6, .int (iI J))] [] := by
  intro m
  induction m with
  | zero => intro j J K hm hj e1 hI; omega
  | succ m ih =>
    intro j J K hm hj e1 hI
    obtain ⟨w1, w2, w3, w4, w5, w6, w7⟩ := id hw
    have hpF := pF_lt w4
    have h2p := Nat.two_pow_pos (C 0)
    refine v_iload (n := 60) k dX1_learnKinds_58 rfl rfl ?_
    refine v_iload_n (n := 61) k dX1_learnKinds_60 rfl rfl ?_
    refine v_icmp_ge (n := 64) (t := 83) k (⟨by omega, by omega⟩) (⟨by omega, by omega⟩) dX1_learnKinds_61 (by decide) rfl (fun c_61 => ?_) (fun c_61 => ?_)
    · refine v_iinc (n := 86) k dX1_learnKinds_83 rfl (by decide) rfl rfl rfl ?_
      refine v_goto (t := 38) k dX1_learnKinds_86 (by decide) ?_
      refine v_lvf [(0, .ref hd), (1, .int (iI ((C 0 : Nat) : Int))), (2, .int (iI ((pF (C 0) : Nat) : Int))), (3, .int (iI E)), (4, .int (iI (KI + 1)))] ⟨rfl, rfl, rfl, rfl, rfl, trivial⟩ ?_
      refine hc9 _ ?_
      have e9 : j = min (2 ^ C 0) 256 := by omega
      rw [← pF_mul hkk, ← e9]
      exact hI
    · refine v_aload_n (n := 65) k dX1_learnKinds_64 rfl rfl ?_
      refine v_aload_n (n := 66) k dX1_learnKinds_65 rfl rfl ?_
      refine v_iload (n := 68) k dX1_learnKinds_66 rfl rfl ?_
      refine v_iload (n := 70) k dX1_learnKinds_68 rfl rfl ?_
      refine v_rdVi (n := 73) k [0, 1] 0 (z_X1_at (p := pb C 0 (1 + kk)) (i := j) rfl e1 (dirp_lt hw hkk) (by omega) w2) miX1_at ml_X1_70 (by decide) (by decide) rfl (by decide) rfl rfl rfl rfl (Nat.le_of_ble_eq_true rfl) ⟨Nat.zero_le _, Nat.zero_le _⟩ dX1_learnKinds_70 rfl ?_
      refine v_iconst (n := 74) k dX1_learnKinds_73 rfl ?_
      refine v_upV (n := 77) k [0, 2] 0 (z_X1_mark (p := pb C (pb C 0 (1 + kk)) j) (v := 5) rfl rfl (w3 _) w2) miX1_mark ml_X1_105 (by decide) (by decide) rfl (by decide) rfl rfl rfl rfl (Nat.le_of_ble_eq_true rfl) ⟨Nat.zero_le _, Nat.zero_le _⟩ dX1_learnKinds_74 rfl ?_
      rintro _ _ ⟨rfl, rfl⟩
      dsimp only [wput, List.set, Option.toList, List.nil_append, List.cons_append]
      refine v_iinc (n := 80) k dX1_learnKinds_77 rfl (by decide) rfl rfl rfl ?_
      refine v_goto (t := 58) k dX1_learnKinds_80 (by decide) ?_
      exact ih (j + 1) _ _ (by omega) (by omega) (by omega) (by
        have h9 := hI.step
        rw [entN_kj C (by omega)] at h9
        exact h9)
set_option maxHeartbeats 1000000 in
set_option maxRecDepth 20000 in
theorem lp_learn1 {D : va_G} {cI cB cJ cZ : ClassId} {x : Kx} {hd hc hk : Nat} {pg lg : Nat} {wt al dn : Int} {C : Nat → Nat} {E : Int} (k : Kf x cX1_learnKinds 7 yX1_learnKinds.cls none D (TY cI cB cJ cZ) ({ frames := 2, cells := 0, slots := 0, locals := 43 })) (hq : isU x D [hd, hc, hk] (fun r w1 => r = none ∧ ∃ K, KOK K C pg lg ∧ w1 = [oDisk hd hc hk 0 pg lg wt al dn, aN cI hc 65280 C, aN cI hk 255 K])) (hw : DW C pg lg) (hl : lg ≤ 100) (hE : E = ((min (2 ^ C 0) 256 : Nat) : Int)) : ∀ (m : Nat) (i : Nat) (I : Int) (K : Nat → Nat), pF (C 0) < i + m → i ≤ pF (C 0) → I = (i : Int) → I1 C pg (min (i * 256) (2 ^ C 0)) K → Vw x 7 (fun q => q ∈ [hd, hc, hk]) D true 0 0 [oDisk hd hc hk 0 pg lg wt al dn, aN cI hc 65280 C, aN cI hk 255 K] 38 [(0, .ref hd), (1, .int (iI ((C 0 : Nat) : Int))), (2, .int (iI ((pF (C 0) : Nat) : Int))), (3, .int (iI E)), (4, .int (iI I))] [] := by
  intro m
  induction m with
  | zero => intro i I K hm hi e1 hI; omega
  | succ m ih =>
    intro i I K hm hi e1 hI
    obtain ⟨w1, w2, w3, w4, w5, w6, w7⟩ := id hw
    have hpF := pF_lt w4
    have h2p := Nat.two_pow_pos (C 0)
    refine v_iload (n := 40) k dX1_learnKinds_38 rfl rfl ?_
    refine v_iload_n (n := 41) k dX1_learnKinds_40 rfl rfl ?_
    refine v_icmp_ge (n := 44) (t := 89) k (⟨by omega, by omega⟩) (⟨by omega, by omega⟩) dX1_learnKinds_41 (by decide) rfl (fun c_41 => ?_) (fun c_41 => ?_)
    · refine v_iconst (n := 90) k dX1_learnKinds_89 rfl ?_
      refine v_istore (n := 92) k dX1_learnKinds_90 rfl (by decide) rfl rfl ?_
      have e9 : i = pF (C 0) := by omega
      subst e9
      rw [pF_all] at hI
      exact lp_learn2 k hq hw hl (pF (C 0) + 1) 0 _ _ (by omega) (by omega) rfl ⟨hI.1, fun p hp => by rw [hI.2 p hp]; simp [dirB]⟩
    · refine v_aload_n (n := 45) k dX1_learnKinds_44 rfl rfl ?_
      refine v_iconst (n := 46) k dX1_learnKinds_45 rfl ?_
      refine v_iconst (n := 47) k dX1_learnKinds_46 rfl ?_
      refine v_iload (n := 49) k dX1_learnKinds_47 rfl rfl ?_
      refine v_iadd (n := 50) k dX1_learnKinds_49 rfl ?_
      refine v_rdVi (n := 53) k [0, 1] 0 (z_X1_at (p := 0) (i := 1 + i) rfl (by omega) (by omega) (by omega) w2) miX1_at ml_X1_70 (by decide) (by decide) rfl (by decide) rfl rfl rfl rfl (Nat.le_of_ble_eq_true rfl) ⟨Nat.zero_le _, Nat.zero_le _⟩ dX1_learnKinds_50 rfl ?_
      refine v_istore (n := 55) k dX1_learnKinds_53 rfl (by decide) rfl rfl ?_
      refine v_iconst (n := 56) k dX1_learnKinds_55 rfl ?_
      refine v_istore (n := 58) k dX1_learnKinds_56 rfl (by decide) rfl rfl ?_
      refine lp_learn1i k hq hw hl hE (kk := i) (by omega) (fun K9 h9 => ih (i + 1) _ K9 (by omega) (by omega) (by omega) h9) 257 0 _ _ (by omega) (by omega) rfl ?_
      have e9 : min (i * 256) (2 ^ C 0) = i * 256 + 0 := by
        have := pF_mul (d := C 0) (k := i) (by omega)
        omega
      rw [e9] at hI
      exact hI
set_option maxHeartbeats 1000000 in
set_option maxRecDepth 20000 in
theorem z_X1_learnKinds {D : va_G} {cI cB cJ cZ : ClassId} {hd hc hk : Nat} {ko : Int} {pg lg : Nat} {wt al dn : Int} {C : Nat → Nat} {K : Nat → Nat} (hw : DW C pg lg) (hl : lg ≤ 100) : ∀ l, Up l yX1_learnKinds cX1_learnKinds 7 none ({ frames := 2, cells := 0, slots := 0, locals := 43 }) D (TY cI cB cJ cZ) [.ref hd] [oDisk hd hc hk ko pg lg wt al dn, aN cI hc 65280 C, aN cI hk 255 K] (fun r w1 => r = none ∧ ∃ K, KOK K C pg lg ∧ w1 = [oDisk hd hc hk 0 pg lg wt al dn, aN cI hc 65280 C, aN cI hk 255 K]) := by
  intro l
  refine Up_of (by decide) (Nat.le_of_ble_eq_true rfl) (fun x k hq => ?_)
  obtain ⟨w1, w2, w3, w4, w5, w6, w7⟩ := id hw
  have hpF := pF_lt w4
  have h2p := Nat.two_pow_pos (C 0)
  have h15 : 2 ^ C 0 ≤ 32768 := Nat.le_trans (Nat.pow_le_pow_right (n := 2) (j := 15) (by decide) w4) (by decide)
  refine v_aload_n (n := 1) k dX1_learnKinds_0 rfl rfl ?_
  refine v_iconst (n := 2) k dX1_learnKinds_1 rfl ?_
  refine v_put (n := 5) k ciX1 0 2 (by decide) fl_X1_33 rfl rfl (rfl) (rfl) (Nat.le_of_ble_eq_true rfl) dX1_learnKinds_2 rfl ?_
  refine v_aload_n (n := 6) k dX1_learnKinds_5 rfl rfl ?_
  refine v_get (n := 9) k ciX1 0 1 (by decide) fl_X1_16 rfl rfl dX1_learnKinds_6 rfl ?_
  refine v_iconst (n := 10) k dX1_learnKinds_9 rfl ?_
  refine v_upS (n := 13) k [2] (z_J7_fill (v := 0) rfl (by decide)) miJ7_fill_53178 ml_X1_91 (by decide) (by decide) rfl (by decide) rfl rfl (Nat.le_of_ble_eq_true rfl) ⟨Nat.zero_le _, Nat.zero_le _⟩ dX1_learnKinds_10 rfl ?_
  rintro _ _ ⟨rfl, rfl⟩
  dsimp only [wput, List.set, Option.toList, List.nil_append, List.cons_append]
  refine v_aload_n (n := 14) k dX1_learnKinds_13 rfl rfl ?_
  refine v_iconst (n := 15) k dX1_learnKinds_14 rfl ?_
  refine v_iconst (n := 16) k dX1_learnKinds_15 rfl ?_
  refine v_rdVi (n := 19) k [0, 1] 0 (z_X1_at (p := 0) (i := 0) rfl rfl (by omega) (by omega) w2) miX1_at ml_X1_70 (by decide) (by decide) rfl (by decide) rfl rfl rfl rfl (Nat.le_of_ble_eq_true rfl) ⟨Nat.zero_le _, Nat.zero_le _⟩ dX1_learnKinds_16 rfl ?_
  refine v_istore_n (n := 20) k dX1_learnKinds_19 rfl (by decide) rfl rfl ?_
  refine v_iload_n (n := 21) k dX1_learnKinds_20 rfl rfl ?_
  refine v_rdSNi (n := 24) k [] (z_X4_pagesFor (d := C 0) rfl (by omega)) miX4_pagesFor nl_X1_97 (by decide) (by decide) rfl (by decide) rfl rfl (Nat.le_of_ble_eq_true rfl) ⟨Nat.zero_le _, Nat.zero_le _⟩ dX1_learnKinds_21 rfl ?_
  refine v_istore_n (n := 25) k dX1_learnKinds_24 rfl (by decide) rfl rfl ?_
  refine v_iconst (n := 26) k dX1_learnKinds_25 rfl ?_
  refine v_iload_n (n := 27) k dX1_learnKinds_26 rfl rfl ?_
  refine v_ishl (n := 28) k (((1 * 2 ^ C 0 : Nat) : Int)) (ax_shl rfl rfl (by omega) (by omega)) dX1_learnKinds_27 rfl ?_
  refine v_sipush (n := 31) k dX1_learnKinds_28 (by decide) rfl ?_
  refine v_min (n := 34) k ml_X1_100 (⟨by omega, by omega⟩) (⟨by omega, by omega⟩) (by decide) (Nat.le_of_ble_eq_true rfl) (Nat.zero_le _) (Nat.zero_le _) dX1_learnKinds_31 rfl ?_
  refine v_istore_n (n := 35) k dX1_learnKinds_34 rfl (by decide) rfl rfl ?_
  refine v_iconst (n := 36) k dX1_learnKinds_35 rfl ?_
  refine v_istore (n := 38) k dX1_learnKinds_36 rfl (by decide) rfl rfl ?_
  exact lp_learn1 k hq hw hl (by rw [Nat.one_mul]; omega) (pF (C 0) + 1) 0 _ _ (by omega) (by omega) rfl ⟨fun _ => (by decide : 0 < 256), fun p hp => by simp [visB]⟩
def kdF (C : Nat → Nat) (pg lg : Nat) (P : Int) : Int := if 0 ≤ P ∧ P < (pg : Int) then ((kdN C lg P.toNat : Nat) : Int) else -1
theorem KS.in {ko : Int} {K C : Nat → Nat} {pg lg : Nat} (h : KS ko K C pg lg) : in32 ko := by
  rcases h.2 with h | h
  · exact ⟨by omega, by omega⟩
  · exact ⟨by omega, by omega⟩
set_option maxHeartbeats 1000000 in
set_option maxRecDepth 20000 in
theorem z_X1_kindOf {D : va_G} {cI cB cJ cZ : ClassId} {hd hc hk : Nat} {ko : Int} {pg lg : Nat} {wt al dn : Int} {C : Nat → Nat} {K : Nat → Nat} {P : Int} (hw : DW C pg lg) (hl : lg ≤ 100) (hp9 : in32 P) (hks : KS ko K C pg lg) : ∀ l, Up l yX1_kindOf cX1_kindOf 2 (some .int) ({ frames := 3, cells := 0, slots := 0, locals := 69 }) D (TY cI cB cJ cZ) [.ref hd, .int (iI P)] [oDisk hd hc hk ko pg lg wt al dn, aN cI hc 65280 C, aN cI hk 255 K] (fun r w1 => r = some (.int (iI (kdF C pg lg P))) ∧ ∃ ko2 K2, KS ko2 K2 C pg lg ∧ w1 = [oDisk hd hc hk ko2 pg lg wt al dn, aN cI hc 65280 C, aN cI hk 255 K2]) := by
  intro l
  refine Up_of (by decide) (Nat.le_of_ble_eq_true rfl) (fun x k hq => ?_)
  obtain ⟨w1, w2, w3, w4, w5, w6, w7⟩ := id hw
  obtain ⟨hp1, hp2⟩ := id hp9
  refine v_aload_n (n := 1) k dX1_kindOf_0 rfl rfl ?_
  refine v_iload_n (n := 2) k dX1_kindOf_1 rfl rfl ?_
  refine v_rdVi (n := 5) k [0] 0 (z_X1_isPage hp9 w2) miX1_isPage ml_X1_50 (by decide) (by decide) rfl (by decide) rfl rfl rfl rfl (Nat.le_of_ble_eq_true rfl) ⟨Nat.zero_le _, Nat.zero_le _⟩ dX1_kindOf_2 rfl ?_
  refine v_if_ne (n := 8) (t := 10) k (⟨by cases pgF pg P <;> decide, by cases pgF pg P <;> decide⟩) dX1_kindOf_5 (by decide) rfl (fun c_5 => ?_) (fun c_5 => ?_)
  · have hyes : 0 ≤ P ∧ P < (pg : Int) := by
      have h9 : pgF pg P = true := by
        cases h8 : pgF pg P with
        | true => rfl
        | false => exact absurd (bI_f h8) c_5
      exact of_decide_eq_true h9
    refine v_aload_n (n := 11) k dX1_kindOf_10 rfl rfl ?_
    refine v_get (n := 14) k ciX1 0 2 (by decide) fl_X1_33 rfl rfl dX1_kindOf_11 rfl ?_
    refine v_if_eq (n := 17) (t := 21) k (hks.in) dX1_kindOf_14 (by decide) rfl (fun c_14 => ?_) (fun c_14 => ?_)
    · refine v_aload_n (n := 22) k dX1_kindOf_21 rfl rfl ?_
      refine v_get (n := 25) k ciX1 0 1 (by decide) fl_X1_16 rfl rfl dX1_kindOf_22 rfl ?_
      refine v_iload_n (n := 26) k dX1_kindOf_25 rfl rfl ?_
      refine v_ialdN (n := 27) k 2 0 (P.toNat) rfl rfl (by omega) (by omega) (by omega) dX1_kindOf_26 rfl ?_
      refine v_iretU k hq ?_ rfl dX1_kindOf_27
      first
      | exact ⟨by rw [kdF, if_pos hyes, hK1.2 _ (by omega)], 0, K1, ⟨hK1.1, Or.inr ⟨rfl, hK1, w6, w4⟩⟩, rfl⟩
      | (have hk9 : KOK K C pg lg := by
          rcases hks.2 with h | h
          · omega
          · exact h.2.1
         exact ⟨by rw [kdF, if_pos hyes, hk9.2 _ (by omega)], ko, K, hks, rfl⟩)
    · refine v_aload_n (n := 18) k dX1_kindOf_17 rfl rfl ?_
      refine v_upV (n := 21) k [0, 1, 2] 0 (z_X1_learnKinds hw hl) miX1_learnKinds ml_X1_88 (by decide) (by decide) rfl (by decide) rfl rfl rfl rfl (Nat.le_of_ble_eq_true rfl) ⟨Nat.zero_le _, Nat.zero_le _⟩ dX1_kindOf_18 rfl ?_
      rintro _ _ ⟨rfl, K1, hK1, rfl⟩
      dsimp only [wput, List.set, Option.toList, List.nil_append, List.cons_append]
      refine v_aload_n (n := 22) k dX1_kindOf_21 rfl rfl ?_
      refine v_get (n := 25) k ciX1 0 1 (by decide) fl_X1_16 rfl rfl dX1_kindOf_22 rfl ?_
      refine v_iload_n (n := 26) k dX1_kindOf_25 rfl rfl ?_
      refine v_ialdN (n := 27) k 2 0 (P.toNat) rfl rfl (by omega) (by omega) (by omega) dX1_kindOf_26 rfl ?_
      refine v_iretU k hq ?_ rfl dX1_kindOf_27
      first
      | exact ⟨by rw [kdF, if_pos hyes, hK1.2 _ (by omega)], 0, K1, ⟨hK1.1, Or.inr ⟨rfl, hK1, w6, w4⟩⟩, rfl⟩
      | (have hk9 : KOK K C pg lg := by
          rcases hks.2 with h | h
          · omega
          · exact h.2.1
         exact ⟨by rw [kdF, if_pos hyes, hk9.2 _ (by omega)], ko, K, hks, rfl⟩)
  · have hno : ¬ (0 ≤ P ∧ P < (pg : Int)) := fun h => by
      rw [bI_t (show pgF pg P = true from decide_eq_true h)] at c_5
      omega
    refine v_iconst (n := 9) k dX1_kindOf_8 rfl ?_
    refine v_iretU k hq ?_ rfl dX1_kindOf_9
    exact ⟨by rw [kdF, if_neg hno], ko, K, hks, rfl⟩
