theorem kdN_le (C : Nat → Nat) (lg p : Nat) : kdN C lg p ≤ 5 := by
  unfold kdN
  repeat' split
  all_goals decide
theorem kdF_nat {C : Nat → Nat} {pg lg i : Nat} {I : Int} (e : I = (i : Int)) (h : i < pg) : kdF C pg lg I = ((kdN C lg i : Nat) : Int) := by
  subst e
  rw [kdF, if_pos ⟨by omega, by omega⟩, Int.toNat_natCast]
def cntK (C : Nat → Nat) (lg kd : Nat) : Nat → Nat
  | 0 => 0
  | n + 1 => cntK C lg kd n + (if kdN C lg n = kd then 1 else 0)
def cntR (C : Nat → Nat) (lg : Nat) : Nat → Nat
  | 0 => 0
  | n + 1 => cntR C lg n + (if kdN C lg n = 5 then pb C n 1 else 0)
theorem cntK_le (C : Nat → Nat) (lg kd n : Nat) : cntK C lg kd n ≤ n := by
  induction n with
  | zero => exact Nat.le_refl _
  | succ n ih => unfold cntK; split <;> omega
def frN (C : Nat → Nat) (pg lg a : Nat) : Option Nat := (List.range pg).find? (fun q => decide (a ≤ q) && kdN C lg q == 0)
def frI (C : Nat → Nat) (pg lg a : Nat) : Int := match frN C pg lg a with
  | some q => (q : Int)
  | none => -1
def hbD (C : Nat → Nat) (pg lg d : Nat) : Bool := (List.range pg).any (fun q => kdN C lg q == 5 && pb C q 0 == d)
theorem any_range {n i : Nat} {P : Nat → Bool} (hi : i < n) (h : P i = true) : (List.range n).any P = true := List.any_eq_true.mpr ⟨i, List.mem_range.mpr hi, h⟩
theorem any_range_f {n : Nat} {P : Nat → Bool} (h : ∀ r, r < n → P r = false) : (List.range n).any P = false := by
  rw [List.any_eq_false]
  intro x hx
  rw [h x (List.mem_range.mp hx)]
  decide
set_option maxHeartbeats 1000000 in
set_option maxRecDepth 20000 in
theorem lp_X1_countKind {D : va_G} {cI cB cJ cZ : ClassId} {x : Kx} {hd hc hk : Nat} {pg lg : Nat} {wt al dn : Int} {C : Nat → Nat} {Q : Int} {kd : Nat} (k : Kf x cX1_countKind 4 yX1_countKind.cls (some .int) D (TY cI cB cJ cZ) ({ frames := 4, cells := 0, slots := 0, locals := 90 })) (hq : isU x D [hd, hc, hk] (fun r w1 => r = some (.int (iI (((cntK C lg kd pg : Nat) : Int)))) ∧ ∃ ko2 K2, KS ko2 K2 C pg lg ∧ w1 = [oDisk hd hc hk ko2 pg lg wt al dn, aN cI hc 65280 C, aN cI hk 255 K2])) (hw : DW C pg lg) (hl : lg ≤ 100) (hQ : Q = (kd : Int)) (hkd : kd ≤ 5) : ∀ (m : Nat) (i : Nat) (N I ko : Int) (K : Nat → Nat), pg < i + m → i ≤ pg → I = (i : Int) → N = ((cntK C lg kd i : Nat) : Int) → KS ko K C pg lg → Vw x 4 (fun q => q ∈ [hd, hc, hk]) D true 0 0 [oDisk hd hc hk ko pg lg wt al dn, aN cI hc 65280 C, aN cI hk 255 K] 4 [(0, .ref hd), (1, .int (iI Q)), (2, .int (iI N)), (3, .int (iI I))] [] := by
  intro m
  induction m with
  | zero => intro i N I ko K hm hi e1 e2 hks; omega
  | succ m ih =>
    intro i N I ko K hm hi e1 e2 hks
    obtain ⟨w1, w2, w3, w4, w5, w6, w7⟩ := id hw
    refine v_iload_n (n := 5) k dX1_countKind_4 rfl rfl ?_
    refine v_aload_n (n := 6) k dX1_countKind_5 rfl rfl ?_
    refine v_get (n := 9) k ciX1 0 3 (by decide) fl_X1_19 rfl rfl dX1_countKind_6 rfl ?_
    refine v_icmp_ge (n := 12) (t := 30) k (⟨by omega, by omega⟩) (⟨by omega, by omega⟩) dX1_countKind_9 (by decide) rfl (fun c_9 => ?_) (fun c_9 => ?_)
    · have e9 : i = pg := by omega
      subst e9
      refine v_iload_n (n := 31) k dX1_countKind_30 rfl rfl ?_
      refine v_iretU k hq ?_ rfl dX1_countKind_31
      exact ⟨by rw [e2], ko, K, hks, rfl⟩
    · refine v_aload_n (n := 13) k dX1_countKind_12 rfl rfl ?_
      refine v_iload_n (n := 14) k dX1_countKind_13 rfl rfl ?_
      refine v_upV (n := 17) k [0, 1, 2] 0 (z_X1_kindOf hw hl ⟨by omega, by omega⟩ hks) miX1_kindOf ml_X1_109 (by decide) (by decide) rfl (by decide) rfl rfl rfl rfl (Nat.le_of_ble_eq_true rfl) ⟨Nat.zero_le _, Nat.zero_le _⟩ dX1_countKind_14 rfl ?_
      rintro _ _ ⟨rfl, ko2, K2, hks2, rfl⟩
      rw [kdF_nat e1 (by omega)]
      have hk9 := kdN_le C lg i
      dsimp only [wput, List.set, Option.toList, List.nil_append, List.cons_append]
      refine v_iload_n (n := 18) k dX1_countKind_17 rfl rfl ?_
      refine v_icmp_ne (n := 21) (t := 24) k (⟨by omega, by omega⟩) (⟨by omega, by omega⟩) dX1_countKind_18 (by decide) rfl (fun c_18 => ?_) (fun c_18 => ?_)
      · refine v_iinc (n := 27) k dX1_countKind_24 rfl (by decide) rfl rfl rfl ?_
        refine v_goto (t := 4) k dX1_countKind_27 (by decide) ?_
        refine ih (i + 1) _ _ _ _ (by omega) (by omega) (by omega) ?_ hks2
        unfold cntK
        first
        | (rw [if_pos (by omega)]; omega)
        | (rw [if_neg (by omega)]; omega)
      · refine v_iinc (n := 24) k dX1_countKind_21 rfl (by decide) rfl rfl rfl ?_
        refine v_iinc (n := 27) k dX1_countKind_24 rfl (by decide) rfl rfl rfl ?_
        refine v_goto (t := 4) k dX1_countKind_27 (by decide) ?_
        refine ih (i + 1) _ _ _ _ (by omega) (by omega) (by omega) ?_ hks2
        unfold cntK
        first
        | (rw [if_pos (by omega)]; omega)
        | (rw [if_neg (by omega)]; omega)
set_option maxHeartbeats 1000000 in
set_option maxRecDepth 20000 in
theorem z_X1_countKind {D : va_G} {cI cB cJ cZ : ClassId} {hd hc hk : Nat} {ko : Int} {pg lg : Nat} {wt al dn : Int} {C : Nat → Nat} {K : Nat → Nat} {Q : Int} {kd : Nat} (hw : DW C pg lg) (hl : lg ≤ 100) (hQ : Q = (kd : Int)) (hkd : kd ≤ 5) (hks : KS ko K C pg lg) : ∀ l, Up l yX1_countKind cX1_countKind 4 (some .int) ({ frames := 4, cells := 0, slots := 0, locals := 90 }) D (TY cI cB cJ cZ) [.ref hd, .int (iI Q)] [oDisk hd hc hk ko pg lg wt al dn, aN cI hc 65280 C, aN cI hk 255 K] (fun r w1 => r = some (.int (iI (((cntK C lg kd pg : Nat) : Int)))) ∧ ∃ ko2 K2, KS ko2 K2 C pg lg ∧ w1 = [oDisk hd hc hk ko2 pg lg wt al dn, aN cI hc 65280 C, aN cI hk 255 K2]) := by
  intro l
  refine Up_of (by decide) (Nat.le_of_ble_eq_true rfl) (fun x k hq => ?_)
  refine v_iconst (n := 1) k dX1_countKind_0 rfl ?_
  refine v_istore_n (n := 2) k dX1_countKind_1 rfl (by decide) rfl rfl ?_
  refine v_iconst (n := 3) k dX1_countKind_2 rfl ?_
  refine v_istore_n (n := 4) k dX1_countKind_3 rfl (by decide) rfl rfl ?_
  exact lp_X1_countKind k hq hw hl hQ hkd (pg + 1) 0 _ _ _ _ (by omega) (by omega) rfl rfl hks
set_option maxHeartbeats 1000000 in
set_option maxRecDepth 20000 in
theorem lp_X1_freeBehind {D : va_G} {cI cB cJ cZ : ClassId} {x : Kx} {hd hc hk : Nat} {pg lg : Nat} {wt al dn : Int} {C : Nat → Nat} {P : Int} {a : Nat} (k : Kf x cX1_freeBehind 3 yX1_freeBehind.cls (some .int) D (TY cI cB cJ cZ) ({ frames := 4, cells := 0, slots := 0, locals := 90 })) (hq : isU x D [hd, hc, hk] (fun r w1 => r = some (.int (iI (frI C pg lg a))) ∧ ∃ ko2 K2, KS ko2 K2 C pg lg ∧ w1 = [oDisk hd hc hk ko2 pg lg wt al dn, aN cI hc 65280 C, aN cI hk 255 K2])) (hw : DW C pg lg) (hl : lg ≤ 100) (hP : P + 1 = (a : Int)) : ∀ (m : Nat) (i : Nat) (I ko : Int) (K : Nat → Nat), pg < i + m → (a ≤ i ∧ i ≤ pg) → I = (i : Int) → KS ko K C pg lg → (∀ q, a ≤ q → q < i → kdN C lg q ≠ 0) → Vw x 3 (fun q => q ∈ [hd, hc, hk]) D true 0 0 [oDisk hd hc hk ko pg lg wt al dn, aN cI hc 65280 C, aN cI hk 255 K] 4 [(0, .ref hd), (1, .int (iI P)), (2, .int (iI I))] [] := by
  intro m
  induction m with
  | zero => intro i I ko K hm hi e1 hks e3; omega
  | succ m ih =>
    intro i I ko K hm hi e1 hks e3
    obtain ⟨w1, w2, w3, w4, w5, w6, w7⟩ := id hw
    refine v_iload_n (n := 5) k dX1_freeBehind_4 rfl rfl ?_
    refine v_aload_n (n := 6) k dX1_freeBehind_5 rfl rfl ?_
    refine v_get (n := 9) k ciX1 0 3 (by decide) fl_X1_19 rfl rfl dX1_freeBehind_6 rfl ?_
    refine v_icmp_ge (n := 12) (t := 28) k (⟨by omega, by omega⟩) (⟨by omega, by omega⟩) dX1_freeBehind_9 (by decide) rfl (fun c_9 => ?_) (fun c_9 => ?_)
    · refine v_iconst (n := 29) k dX1_freeBehind_28 rfl ?_
      refine v_iretU k hq ?_ rfl dX1_freeBehind_29
      refine ⟨?_, ko, K, hks, rfl⟩
      rw [frI, show frN C pg lg a = none from find_range_n (fun r hr => by
        rcases Nat.lt_or_ge r a with g | g
        · have : ¬ a ≤ r := by omega
          simp [this]
        · have h1 := e3 r g (by omega)
          simp [h1])]
    · refine v_aload_n (n := 13) k dX1_freeBehind_12 rfl rfl ?_
      refine v_iload_n (n := 14) k dX1_freeBehind_13 rfl rfl ?_
      refine v_upV (n := 17) k [0, 1, 2] 0 (z_X1_kindOf hw hl ⟨by omega, by omega⟩ hks) miX1_kindOf ml_X1_109 (by decide) (by decide) rfl (by decide) rfl rfl rfl rfl (Nat.le_of_ble_eq_true rfl) ⟨Nat.zero_le _, Nat.zero_le _⟩ dX1_freeBehind_14 rfl ?_
      rintro _ _ ⟨rfl, ko2, K2, hks2, rfl⟩
      rw [kdF_nat e1 (by omega)]
      have hk9 := kdN_le C lg i
      dsimp only [wput, List.set, Option.toList, List.nil_append, List.cons_append]
      refine v_if_ne (n := 20) (t := 22) k (⟨by omega, by omega⟩) dX1_freeBehind_17 (by decide) rfl (fun c_17 => ?_) (fun c_17 => ?_)
      · refine v_iinc (n := 25) k dX1_freeBehind_22 rfl (by decide) rfl rfl rfl ?_
        refine v_goto (t := 4) k dX1_freeBehind_25 (by decide) ?_
        exact ih (i + 1) _ _ _ (by omega) (by omega) (by omega) hks2 (fun q h1 h2 => by
          rcases Nat.lt_or_ge q i with g | g
          · exact e3 q h1 g
          · have : q = i := by omega
            subst this
            omega)
      · refine v_iload_n (n := 21) k dX1_freeBehind_20 rfl rfl ?_
        refine v_iretU k hq ?_ rfl dX1_freeBehind_21
        refine ⟨?_, ko2, K2, hks2, rfl⟩
        rw [frI, show frN C pg lg a = some i from find_range (by omega) (by
          have h1 : kdN C lg i = 0 := by omega
          simp [h1, hi.1]) (fun r hr => by
          rcases Nat.lt_or_ge r a with g | g
          · have : ¬ a ≤ r := by omega
            simp [this]
          · have h1 := e3 r g hr
            simp [h1]), e1]
set_option maxHeartbeats 1000000 in
set_option maxRecDepth 20000 in
theorem z_X1_freeBehind {D : va_G} {cI cB cJ cZ : ClassId} {hd hc hk : Nat} {ko : Int} {pg lg : Nat} {wt al dn : Int} {C : Nat → Nat} {K : Nat → Nat} {P : Int} {a : Nat} (hw : DW C pg lg) (hl : lg ≤ 100) (hP : P + 1 = (a : Int)) (ha : a ≤ pg) (hks : KS ko K C pg lg) : ∀ l, Up l yX1_freeBehind cX1_freeBehind 3 (some .int) ({ frames := 4, cells := 0, slots := 0, locals := 90 }) D (TY cI cB cJ cZ) [.ref hd, .int (iI P)] [oDisk hd hc hk ko pg lg wt al dn, aN cI hc 65280 C, aN cI hk 255 K] (fun r w1 => r = some (.int (iI (frI C pg lg a))) ∧ ∃ ko2 K2, KS ko2 K2 C pg lg ∧ w1 = [oDisk hd hc hk ko2 pg lg wt al dn, aN cI hc 65280 C, aN cI hk 255 K2]) := by
  intro l
  refine Up_of (by decide) (Nat.le_of_ble_eq_true rfl) (fun x k hq => ?_)
  refine v_iload_n (n := 1) k dX1_freeBehind_0 rfl rfl ?_
  refine v_iconst (n := 2) k dX1_freeBehind_1 rfl ?_
  refine v_iadd (n := 3) k dX1_freeBehind_2 rfl ?_
  refine v_istore_n (n := 4) k dX1_freeBehind_3 rfl (by decide) rfl rfl ?_
  exact lp_X1_freeBehind k hq hw hl hP (pg + 1) a _ _ _ (by omega) (by omega) hP hks (fun q h1 h2 => absurd h1 (by omega))
set_option maxHeartbeats 1000000 in
set_option maxRecDepth 20000 in
theorem lp_X1_countRecords {D : va_G} {cI cB cJ cZ : ClassId} {x : Kx} {hd hc hk : Nat} {pg lg : Nat} {wt al dn : Int} {C : Nat → Nat} (k : Kf x cX1_countRecords 3 yX1_countRecords.cls (some .int) D (TY cI cB cJ cZ) ({ frames := 4, cells := 0, slots := 0, locals := 90 })) (hq : isU x D [hd, hc, hk] (fun r w1 => r = some (.int (iI (((cntR C lg pg : Nat) : Int)))) ∧ ∃ ko2 K2, KS ko2 K2 C pg lg ∧ w1 = [oDisk hd hc hk ko2 pg lg wt al dn, aN cI hc 65280 C, aN cI hk 255 K2])) (hw : DW C pg lg) (hl : lg ≤ 100) : ∀ (m : Nat) (i : Nat) (N I ko : Int) (K : Nat → Nat), pg < i + m → i ≤ pg → I = (i : Int) → N = ((cntR C lg i : Nat) : Int) → KS ko K C pg lg → Vw x 3 (fun q => q ∈ [hd, hc, hk]) D true 0 0 [oDisk hd hc hk ko pg lg wt al dn, aN cI hc 65280 C, aN cI hk 255 K] 4 [(0, .ref hd), (1, .int (iI N)), (2, .int (iI I))] [] := by
  intro m
  induction m with
  | zero => intro i N I ko K hm hi e1 e2 hks; omega
  | succ m ih =>
    intro i N I ko K hm hi e1 e2 hks
    obtain ⟨w1, w2, w3, w4, w5, w6, w7⟩ := id hw
    refine v_iload_n (n := 5) k dX1_countRecords_4 rfl rfl ?_
    refine v_aload_n (n := 6) k dX1_countRecords_5 rfl rfl ?_
    refine v_get (n := 9) k ciX1 0 3 (by decide) fl_X1_19 rfl rfl dX1_countRecords_6 rfl ?_
    refine v_icmp_ge (n := 12) (t := 36) k (⟨by omega, by omega⟩) (⟨by omega, by omega⟩) dX1_countRecords_9 (by decide) rfl (fun c_9 => ?_) (fun c_9 => ?_)
    · have e9 : i = pg := by omega
      subst e9
      refine v_iload_n (n := 37) k dX1_countRecords_36 rfl rfl ?_
      refine v_iretU k hq ?_ rfl dX1_countRecords_37
      exact ⟨by rw [e2], ko, K, hks, rfl⟩
    · refine v_aload_n (n := 13) k dX1_countRecords_12 rfl rfl ?_
      refine v_iload_n (n := 14) k dX1_countRecords_13 rfl rfl ?_
      refine v_upV (n := 17) k [0, 1, 2] 0 (z_X1_kindOf hw hl ⟨by omega, by omega⟩ hks) miX1_kindOf ml_X1_109 (by decide) (by decide) rfl (by decide) rfl rfl rfl rfl (Nat.le_of_ble_eq_true rfl) ⟨Nat.zero_le _, Nat.zero_le _⟩ dX1_countRecords_14 rfl ?_
      rintro _ _ ⟨rfl, ko2, K2, hks2, rfl⟩
      rw [kdF_nat e1 (by omega)]
      have hk9 := kdN_le C lg i
      dsimp only [wput, List.set, Option.toList, List.nil_append, List.cons_append]
      refine v_iconst (n := 18) k dX1_countRecords_17 rfl ?_
      refine v_icmp_ne (n := 21) (t := 30) k (⟨by omega, by omega⟩) (⟨by omega, by omega⟩) dX1_countRecords_18 (by decide) rfl (fun c_18 => ?_) (fun c_18 => ?_)
      · refine v_iinc (n := 33) k dX1_countRecords_30 rfl (by decide) rfl rfl rfl ?_
        refine v_goto (t := 4) k dX1_countRecords_33 (by decide) ?_
        refine ih (i + 1) _ _ _ _ (by omega) (by omega) (by omega) ?_ hks2
        unfold cntR
        first
        | (rw [if_pos (by omega)]; omega)
        | (rw [if_neg (by omega)]; omega)
      · refine v_iload_n (n := 22) k dX1_countRecords_21 rfl rfl ?_
        refine v_aload_n (n := 23) k dX1_countRecords_22 rfl rfl ?_
        refine v_iload_n (n := 24) k dX1_countRecords_23 rfl rfl ?_
        refine v_iconst (n := 25) k dX1_countRecords_24 rfl ?_
        refine v_rdVi (n := 28) k [0, 1] 0 (z_X1_at (p := i) (i := 1) e1 rfl (by omega) (by omega) w2) miX1_at ml_X1_70 (by decide) (by decide) rfl (by decide) rfl rfl rfl rfl (Nat.le_of_ble_eq_true rfl) ⟨Nat.zero_le _, Nat.zero_le _⟩ dX1_countRecords_25 rfl ?_
        refine v_iadd (n := 29) k dX1_countRecords_28 rfl ?_
        refine v_istore_n (n := 30) k dX1_countRecords_29 rfl (by decide) rfl rfl ?_
        refine v_iinc (n := 33) k dX1_countRecords_30 rfl (by decide) rfl rfl rfl ?_
        refine v_goto (t := 4) k dX1_countRecords_33 (by decide) ?_
        refine ih (i + 1) _ _ _ _ (by omega) (by omega) (by omega) ?_ hks2
        unfold cntR
        first
        | (rw [if_pos (by omega)]; omega)
        | (rw [if_neg (by omega)]; omega)
set_option maxHeartbeats 1000000 in
set_option maxRecDepth 20000 in
theorem z_X1_countRecords {D : va_G} {cI cB cJ cZ : ClassId} {hd hc hk : Nat} {ko : Int} {pg lg : Nat} {wt al dn : Int} {C : Nat → Nat} {K : Nat → Nat} (hw : DW C pg lg) (hl : lg ≤ 100) (hks : KS ko K C pg lg) : ∀ l, Up l yX1_countRecords cX1_countRecords 3 (some .int) ({ frames := 4, cells := 0, slots := 0, locals := 90 }) D (TY cI cB cJ cZ) [.ref hd] [oDisk hd hc hk ko pg lg wt al dn, aN cI hc 65280 C, aN cI hk 255 K] (fun r w1 => r = some (.int (iI (((cntR C lg pg : Nat) : Int)))) ∧ ∃ ko2 K2, KS ko2 K2 C pg lg ∧ w1 = [oDisk hd hc hk ko2 pg lg wt al dn, aN cI hc 65280 C, aN cI hk 255 K2]) := by
  intro l
  refine Up_of (by decide) (Nat.le_of_ble_eq_true rfl) (fun x k hq => ?_)
  refine v_iconst (n := 1) k dX1_countRecords_0 rfl ?_
  refine v_istore_n (n := 2) k dX1_countRecords_1 rfl (by decide) rfl rfl ?_
  refine v_iconst (n := 3) k dX1_countRecords_2 rfl ?_
  refine v_istore_n (n := 4) k dX1_countRecords_3 rfl (by decide) rfl rfl ?_
  exact lp_X1_countRecords k hq hw hl (pg + 1) 0 _ _ _ _ (by omega) (by omega) rfl rfl hks
set_option maxHeartbeats 1000000 in
set_option maxRecDepth 20000 in
theorem lp_X1_hasBucketOfDepth {D : va_G} {cI cB cJ cZ : ClassId} {x : Kx} {hd hc hk : Nat} {pg lg : Nat} {wt al dn : Int} {C : Nat → Nat} {Q : Int} {d : Nat} (k : Kf x cX1_hasBucketOfDepth 3 yX1_hasBucketOfDepth.cls (some .boolean) D (TY cI cB cJ cZ) ({ frames := 4, cells := 0, slots := 0, locals := 90 })) (hq : isU x D [hd, hc, hk] (fun r w1 => r = some (.int (iI (bI (hbD C pg lg d)))) ∧ ∃ ko2 K2, KS ko2 K2 C pg lg ∧ w1 = [oDisk hd hc hk ko2 pg lg wt al dn, aN cI hc 65280 C, aN cI hk 255 K2])) (hw : DW C pg lg) (hl : lg ≤ 100) (hQ : Q = (d : Int)) (hd9 : d ≤ 100) : ∀ (m : Nat) (i : Nat) (I ko : Int) (K : Nat → Nat), pg < i + m → i ≤ pg → I = (i : Int) → KS ko K C pg lg → (∀ q, q < i → (kdN C lg q == 5 && pb C q 0 == d) = false) → Vw x 3 (fun q => q ∈ [hd, hc, hk]) D true 0 0 [oDisk hd hc hk ko pg lg wt al dn, aN cI hc 65280 C, aN cI hk 255 K] 2 [(0, .ref hd), (1, .int (iI Q)), (2, .int (iI I))] [] := by
  intro m
  induction m with
  | zero => intro i I ko K hm hi e1 hks e3; omega
  | succ m ih =>
    intro i I ko K hm hi e1 hks e3
    obtain ⟨w1, w2, w3, w4, w5, w6, w7⟩ := id hw
    refine v_iload_n (n := 3) k dX1_hasBucketOfDepth_2 rfl rfl ?_
    refine v_aload_n (n := 4) k dX1_hasBucketOfDepth_3 rfl rfl ?_
    refine v_get (n := 7) k ciX1 0 3 (by decide) fl_X1_19 rfl rfl dX1_hasBucketOfDepth_4 rfl ?_
    refine v_icmp_ge (n := 10) (t := 37) k (⟨by omega, by omega⟩) (⟨by omega, by omega⟩) dX1_hasBucketOfDepth_7 (by decide) rfl (fun c_7 => ?_) (fun c_7 => ?_)
    · refine v_iconst (n := 38) k dX1_hasBucketOfDepth_37 rfl ?_
      refine v_zretU k (by decide) hq ?_ rfl dX1_hasBucketOfDepth_38
      refine ⟨?_, ko, K, hks, rfl⟩
      rw [bI_f (show hbD C pg lg d = false from any_range_f (fun r hr => e3 r (by omega)))]
    · refine v_aload_n (n := 11) k dX1_hasBucketOfDepth_10 rfl rfl ?_
      refine v_iload_n (n := 12) k dX1_hasBucketOfDepth_11 rfl rfl ?_
      refine v_upV (n := 15) k [0, 1, 2] 0 (z_X1_kindOf hw hl ⟨by omega, by omega⟩ hks) miX1_kindOf ml_X1_109 (by decide) (by decide) rfl (by decide) rfl rfl rfl rfl (Nat.le_of_ble_eq_true rfl) ⟨Nat.zero_le _, Nat.zero_le _⟩ dX1_hasBucketOfDepth_12 rfl ?_
      rintro _ _ ⟨rfl, ko2, K2, hks2, rfl⟩
      rw [kdF_nat e1 (by omega)]
      have hk9 := kdN_le C lg i
      dsimp only [wput, List.set, Option.toList, List.nil_append, List.cons_append]
      refine v_iconst (n := 16) k dX1_hasBucketOfDepth_15 rfl ?_
      refine v_icmp_ne (n := 19) (t := 31) k (⟨by omega, by omega⟩) (⟨by omega, by omega⟩) dX1_hasBucketOfDepth_16 (by decide) rfl (fun c_16 => ?_) (fun c_16 => ?_)
      · refine v_iinc (n := 34) k dX1_hasBucketOfDepth_31 rfl (by decide) rfl rfl rfl ?_
        refine v_goto (t := 2) k dX1_hasBucketOfDepth_34 (by decide) ?_
        exact ih (i + 1) _ _ _ (by omega) (by omega) (by omega) hks2 (fun q h1 => by
          rcases Nat.lt_or_ge q i with g | g
          · exact e3 q g
          · have : q = i := by omega
            subst this
            first
            | (have h9 : kdN C lg q ≠ 5 := by omega
               simp [h9]; done)
            | (have h9 : pb C q 0 ≠ d := by omega
               simp [h9]; done))
      · refine v_aload_n (n := 20) k dX1_hasBucketOfDepth_19 rfl rfl ?_
        refine v_iload_n (n := 21) k dX1_hasBucketOfDepth_20 rfl rfl ?_
        refine v_iconst (n := 22) k dX1_hasBucketOfDepth_21 rfl ?_
        refine v_rdVi (n := 25) k [0, 1] 0 (z_X1_at (p := i) (i := 0) e1 rfl (by omega) (by omega) w2) miX1_at ml_X1_70 (by decide) (by decide) rfl (by decide) rfl rfl rfl rfl (Nat.le_of_ble_eq_true rfl) ⟨Nat.zero_le _, Nat.zero_le _⟩ dX1_hasBucketOfDepth_22 rfl ?_
        have hb9 : pb C i 0 < 256 := w3 _
        refine v_iload_n (n := 26) k dX1_hasBucketOfDepth_25 rfl rfl ?_
        refine v_icmp_ne (n := 29) (t := 31) k (⟨by omega, by omega⟩) (⟨by omega, by omega⟩) dX1_hasBucketOfDepth_26 (by decide) rfl (fun c_26 => ?_) (fun c_26 => ?_)
        · refine v_iinc (n := 34) k dX1_hasBucketOfDepth_31 rfl (by decide) rfl rfl rfl ?_
          refine v_goto (t := 2) k dX1_hasBucketOfDepth_34 (by decide) ?_
          exact ih (i + 1) _ _ _ (by omega) (by omega) (by omega) hks2 (fun q h1 => by
            rcases Nat.lt_or_ge q i with g | g
            · exact e3 q g
            · have : q = i := by omega
              subst this
              first
              | (have h9 : kdN C lg q ≠ 5 := by omega
                 simp [h9]; done)
              | (have h9 : pb C q 0 ≠ d := by omega
                 simp [h9]; done))
        · refine v_iconst (n := 30) k dX1_hasBucketOfDepth_29 rfl ?_
          refine v_zretU k (by decide) hq ?_ rfl dX1_hasBucketOfDepth_30
          refine ⟨?_, ko2, K2, hks2, rfl⟩
          rw [bI_t (show hbD C pg lg d = true from any_range (i := i) (by omega) (by
            have h1 : kdN C lg i = 5 := by omega
            have h2 : pb C i 0 = d := by omega
            simp [h1, h2]))]
set_option maxHeartbeats 1000000 in
set_option maxRecDepth 20000 in
theorem z_X1_hasBucketOfDepth {D : va_G} {cI cB cJ cZ : ClassId} {hd hc hk : Nat} {ko : Int} {pg lg : Nat} {wt al dn : Int} {C : Nat → Nat} {K : Nat → Nat} {Q : Int} {d : Nat} (hw : DW C pg lg) (hl : lg ≤ 100) (hQ : Q = (d : Int)) (hd9 : d ≤ 100) (hks : KS ko K C pg lg) : ∀ l, Up l yX1_hasBucketOfDepth cX1_hasBucketOfDepth 3 (some .boolean) ({ frames := 4, cells := 0, slots := 0, locals := 90 }) D (TY cI cB cJ cZ) [.ref hd, .int (iI Q)] [oDisk hd hc hk ko pg lg wt al dn, aN cI hc 65280 C, aN cI hk 255 K] (fun r w1 => r = some (.int (iI (bI (hbD C pg lg d)))) ∧ ∃ ko2 K2, KS ko2 K2 C pg lg ∧ w1 = [oDisk hd hc hk ko2 pg lg wt al dn, aN cI hc 65280 C, aN cI hk 255 K2]) := by
  intro l
  refine Up_of (by decide) (Nat.le_of_ble_eq_true rfl) (fun x k hq => ?_)
  refine v_iconst (n := 1) k dX1_hasBucketOfDepth_0 rfl ?_
  refine v_istore_n (n := 2) k dX1_hasBucketOfDepth_1 rfl (by decide) rfl rfl ?_
  exact lp_X1_hasBucketOfDepth k hq hw hl hQ hd9 (pg + 1) 0 _ _ _ (by omega) (by omega) rfl hks (fun q h1 => absurd h1 (by omega))
