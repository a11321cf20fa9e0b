set_option maxHeartbeats 1000000 in
set_option maxRecDepth 20000 in
theorem lp_X5_anew {D : va_G} {cI cB cJ cZ : ClassId} {x : Kx} {hm : Nat} {r : Nat → Nat} {th : Int} {dp dm tp ch : Nat} {Cm Dr En : Nat → Nat} {Ib : Nat → Bool} {Bd Mn : Nat → Nat} {q : RQ} {n g : Nat} {P L : Int} (k : Kf x cX5_anew 4 yX5_anew.cls none D (TY cI cB cJ cZ) ({ frames := 3, cells := 0, slots := 0, locals := 70 })) {A : Nat → Prop}  (hk9 : Vw x 4 A D true 0 0 [oM hm r th n g 0 (-1) 0 dp dm tp 0 ch, aB cB (r 0) 65536 (fun _ => 0), aN cI (r 1) 256 (Dr), aN cI (r 2) 65536 (En), aZ cZ (r 4) 256 (Ib), aN cI (r 5) 256 (Bd), aN cI (r 6) 256 (Mn), aN cI (r 7) 23040 (q).1, aN cI (r 8) 23040 (q).2.1, aL cJ (r 9) 46080 (q).2.2.1, aL cJ (r 10) 92160 (q).2.2.2] 54 [(0, .ref hm), (1, .int (iI P)), (2, .int (iI L)), (3, .int (iI 65536))] []) : ∀ (m : Nat) (i : Nat) (I : Int), 65536 < i + m → i ≤ 65536 → I = (i : Int) → Vw x 4 A D true 0 0 [oM hm r th n g 0 (-1) 0 dp dm tp 0 ch, aB cB (r 0) 65536 (lo (fun _ => 0) Cm i), aN cI (r 1) 256 (Dr), aN cI (r 2) 65536 (En), aZ cZ (r 4) 256 (Ib), aN cI (r 5) 256 (Bd), aN cI (r 6) 256 (Mn), aN cI (r 7) 23040 (q).1, aN cI (r 8) 23040 (q).2.1, aL cJ (r 9) 46080 (q).2.2.1, aL cJ (r 10) 92160 (q).2.2.2] 32 [(0, .ref hm), (1, .int (iI P)), (2, .int (iI L)), (3, .int (iI I))] [] := by
  intro m
  induction m with
  | zero => intro i I hm9 hi e1; omega
  | succ m ih =>
    intro i I hm9 hi e1
    refine v_iload_n (n := 33) k dX5_anew_32 rfl rfl ?_
    refine v_aload_n (n := 34) k dX5_anew_33 rfl rfl ?_
    refine v_get (n := 37) k ciX5 0 1 (by decide) fl_X5_14 rfl rfl dX5_anew_34 rfl ?_
    refine v_alen (n := 38) k 1 1 rfl rfl dX5_anew_37 rfl ?_
    refine v_icmp_ge (n := 41) (t := 54) k (⟨by omega, by omega⟩) (⟨by omega, by omega⟩) dX5_anew_38 (by decide) rfl (fun c_38 => ?_) (fun c_38 => ?_)
    · rw [show i = 65536 by omega, show I = 65536 by omega]
      refine v_cg 1 (fun j => iI (sb 0)) rfl (fun j hj => by unfold lo; rw [if_pos hj]) ?_
      exact hk9
    · refine v_aload_n (n := 42) k dX5_anew_41 rfl rfl ?_
      refine v_get (n := 45) k ciX5 0 1 (by decide) fl_X5_14 rfl rfl dX5_anew_42 rfl ?_
      refine v_iload_n (n := 46) k dX5_anew_45 rfl rfl ?_
      refine v_iconst (n := 47) k dX5_anew_46 rfl ?_
      refine v_bastN (n := 48) k 1 1 (i) rfl rfl (by omega) (by omega) (by omega) (0) (rfl) (by decide) dX5_anew_47 rfl ?_
      rw [lo_s (f := fun _ => 0) rfl]
      refine v_iinc (n := 51) k dX5_anew_48 rfl (by decide) rfl rfl rfl ?_
      refine v_goto (t := 32) k dX5_anew_51 (by decide) ?_
      exact ih (i + 1) _ (by omega) (by omega) (by omega)
set_option maxHeartbeats 1000000 in
set_option maxRecDepth 20000 in
theorem z_X5_anew {D : va_G} {cI cB cJ cZ : ClassId} {hm : Nat} {r : Nat → Nat} {th : Int} {pg lg : Nat} {wt al dn : Int} {dp dm tp an ch : Nat} {Cm : Nat → Nat} {Dr : Nat → Nat} {En : Nat → Nat} {Bd : Nat → Nat} {Mn : Nat → Nat} {Ib : Nat → Bool} {q : RQ} {P L : Int} {n g : Nat} {C : Nat → Nat} (hP : P = (n : Int)) (hL : L = (g : Int)) (h1 : 8 ≤ n) (h2 : n ≤ 255) (h3 : 2 ≤ g) (h4 : g ≤ 100) (h5 : g + 4 ≤ n) (hC : ∀ j, C j < 256) (hG : GB Dr En Bd Mn q) : ∀ l, Up l yX5_anew cX5_anew 4 none ({ frames := 3, cells := 0, slots := 0, locals := 70 }) D (TY cI cB cJ cZ) [.ref hm, .int (iI P), .int (iI L)] [oM hm r th pg lg wt al dn dp dm tp an ch, aB cB (r 0) 65536 Cm, aN cI (r 1) 256 Dr, aN cI (r 2) 65536 En, aZ cZ (r 4) 256 Ib, aN cI (r 5) 256 Bd, aN cI (r 6) 256 Mn, aN cI (r 7) 23040 q.1, aN cI (r 8) 23040 q.2.1, aL cJ (r 9) 46080 q.2.2.1, aL cJ (r 10) 92160 q.2.2.2] (fun v w1 => v = none ∧ ∃ (Cm9 Dr9 En9 : Nat → Nat) (Ib9 : Nat → Bool) (Bd9 Mn9 : Nat → Nat) (q9 : RQ), AGP n Cm9 (fmC C n g) ∧ RM (fmC C n g) g Dr9 En9 Ib9 Bd9 Mn9 q9 ∧ w1 = [oM hm r th n g 0 (-1) 0 (fmC C n g 0) (pF (fmC C n g 0)) tp 0 ch, aB cB (r 0) 65536 (Cm9), aN cI (r 1) 256 (Dr9), aN cI (r 2) 65536 (En9), aZ cZ (r 4) 256 (Ib9), aN cI (r 5) 256 (Bd9), aN cI (r 6) 256 (Mn9), aN cI (r 7) 23040 (q9).1, aN cI (r 8) 23040 (q9).2.1, aL cJ (r 9) 46080 (q9).2.2.1, aL cJ (r 10) 92160 (q9).2.2.2]) := by
  intro l
  refine Up_of (by decide) (Nat.le_of_ble_eq_true rfl) (fun x k hq => ?_)
  subst hP
  subst hL
  refine v_aload_n (n := 1) k dX5_anew_0 rfl rfl ?_
  refine v_iload_n (n := 2) k dX5_anew_1 rfl rfl ?_
  refine v_put (n := 5) k ciX5 0 2 (by decide) fl_X5_69 rfl rfl (rfl) (rfl) (Nat.le_of_ble_eq_true rfl) dX5_anew_2 rfl ?_
  refine v_aload_n (n := 6) k dX5_anew_5 rfl rfl ?_
  refine v_iload_n (n := 7) k dX5_anew_6 rfl rfl ?_
  refine v_put (n := 10) k ciX5 0 3 (by decide) fl_X5_72 rfl rfl (rfl) (rfl) (Nat.le_of_ble_eq_true rfl) dX5_anew_7 rfl ?_
  refine v_aload_n (n := 11) k dX5_anew_10 rfl rfl ?_
  refine v_iconst (n := 12) k dX5_anew_11 rfl ?_
  refine v_put (n := 15) k ciX5 0 4 (by decide) fl_X5_75 rfl rfl (rfl) (rfl) (Nat.le_of_ble_eq_true rfl) dX5_anew_12 rfl ?_
  refine v_aload_n (n := 16) k dX5_anew_15 rfl rfl ?_
  refine v_iconst (n := 17) k dX5_anew_16 rfl ?_
  refine v_put (n := 20) k ciX5 0 5 (by decide) fl_X5_78 rfl rfl (rfl) (rfl) (Nat.le_of_ble_eq_true rfl) dX5_anew_17 rfl ?_
  refine v_aload_n (n := 21) k dX5_anew_20 rfl rfl ?_
  refine v_iconst (n := 22) k dX5_anew_21 rfl ?_
  refine v_put (n := 25) k ciX5 0 6 (by decide) fl_X5_81 rfl rfl (rfl) (rfl) (Nat.le_of_ble_eq_true rfl) dX5_anew_22 rfl ?_
  refine v_aload_n (n := 26) k dX5_anew_25 rfl rfl ?_
  refine v_iconst (n := 27) k dX5_anew_26 rfl ?_
  refine v_put (n := 30) k ciX5 0 22 (by decide) fl_X5_85 rfl rfl (rfl) (rfl) (Nat.le_of_ble_eq_true rfl) dX5_anew_27 rfl ?_
  refine v_iconst (n := 31) k dX5_anew_30 rfl ?_
  refine v_istore_n (n := 32) k dX5_anew_31 rfl (by decide) rfl rfl ?_
  have e0 := lo_0 (fun _ => 0) Cm
  refine v_ws (ws' := [oM hm r th n g 0 (-1) 0 dp dm tp 0 ch, aB cB (r 0) 65536 (lo (fun _ => 0) Cm 0), aN cI (r 1) 256 (Dr), aN cI (r 2) 65536 (En), aZ cZ (r 4) 256 (Ib), aN cI (r 5) 256 (Bd), aN cI (r 6) 256 (Mn), aN cI (r 7) 23040 (q).1, aN cI (r 8) 23040 (q).2.1, aL cJ (r 9) 46080 (q).2.2.1, aL cJ (r 10) 92160 (q).2.2.2]) (by rw [e0]; rfl) ?_
  refine lp_X5_anew k ?_ 65537 0 _ (by omega) (by omega) rfl
  refine v_aload_n (n := 55) k dX5_anew_54 rfl rfl ?_
  refine v_get (n := 58) k ciX5 0 1 (by decide) fl_X5_14 rfl rfl dX5_anew_55 rfl ?_
  refine v_iconst (n := 59) k dX5_anew_58 rfl ?_
  refine v_iload_n (n := 60) k dX5_anew_59 rfl rfl ?_
  refine v_iconst (n := 61) k dX5_anew_60 rfl ?_
  refine v_iadd (n := 62) k dX5_anew_61 rfl ?_
  refine v_i2b (n := 63) k (sb (g + 2)) (by exact sb_c (g + 2) (by omega)) dX5_anew_62 rfl ?_
  refine v_bastN (n := 64) k 1 1 (1) rfl rfl (by omega) (by omega) (by omega) (g + 2) (rfl) (by omega) dX5_anew_63 rfl ?_
  refine v_aload_n (n := 65) k dX5_anew_64 rfl rfl ?_
  refine v_get (n := 68) k ciX5 0 1 (by decide) fl_X5_14 rfl rfl dX5_anew_65 rfl ?_
  refine v_sipush (n := 71) k dX5_anew_68 (by decide) rfl ?_
  refine v_iload_n (n := 72) k dX5_anew_71 rfl rfl ?_
  refine v_iconst (n := 73) k dX5_anew_72 rfl ?_
  refine v_iadd (n := 74) k dX5_anew_73 rfl ?_
  refine v_imul (n := 75) k dX5_anew_74 rfl ?_
  refine v_iload_n (n := 76) k dX5_anew_75 rfl rfl ?_
  refine v_iconst (n := 77) k dX5_anew_76 rfl ?_
  refine v_iadd (n := 78) k dX5_anew_77 rfl ?_
  refine v_i2b (n := 79) k (sb (g + 3)) (by exact sb_c (g + 3) (by omega)) dX5_anew_78 rfl ?_
  refine v_bastN (n := 80) k 1 1 (256 * (g + 2)) rfl rfl (by omega) (by omega) (by omega) (g + 3) (rfl) (by omega) dX5_anew_79 rfl ?_
  have hA9 : AGP n (upN (upN (fun _ => 0) 1 (g + 2)) (256 * (g + 2)) (g + 3)) (fmC C n g) := by
    refine ⟨upN_lt (upN_lt (fun _ => by decide) (by omega)) (by omega), fun j hj => ?_⟩
    rw [fm_at, upN_at, upN_at]
    by_cases k1 : j = 256 * (g + 2)
    · rw [if_pos k1, if_pos (by omega)]
    · have k3 : ¬ j = (g + 2) * 256 := by omega
      rw [if_neg k1, if_neg k3]
      by_cases k2 : j = 1
      · rw [if_pos k2, if_pos k2]
      · rw [if_neg k2, if_neg k2, if_pos hj]
  have hF := (fm_full h1 h2 h3 h4 h5 hC).1
  refine v_aload_n (n := 81) k dX5_anew_80 rfl rfl ?_
  refine v_upV (n := 84) k [0, 1, 2, 3, 4, 5, 6, 7, 8, 9, 10] 0 (z_X5_decode (C := fmC C n g) hA9 hF.ok.1 hF.ok.2 hG) miX5_decode ml_X5_88 (by decide) (by decide) rfl (by decide) rfl rfl rfl rfl (Nat.le_of_ble_eq_true rfl) ⟨Nat.zero_le _, Nat.zero_le _⟩ dX5_anew_81 rfl ?_
  rintro _ _ ⟨rfl, Dr9, En9, Ib9, Bd9, Mn9, q9, hRM9, rfl⟩
  dsimp only [wput, List.set, Option.toList, List.nil_append, List.cons_append]
  refine v_vretU k hq ?_ rfl dX5_anew_84
  exact ⟨rfl, _, Dr9, En9, Ib9, Bd9, Mn9, q9, hA9, hRM9, rfl⟩
set_option maxHeartbeats 1000000 in
set_option maxRecDepth 20000 in
theorem z_X5_format {D : va_G} {cI cB cJ cZ : ClassId} {hm : Nat} {r : Nat → Nat} {th : Int} {pg lg : Nat} {wt al dn : Int} {dp dm tp an ch : Nat} {Cm : Nat → Nat} {Dr : Nat → Nat} {En : Nat → Nat} {Bd : Nat → Nat} {Mn : Nat → Nat} {Ib : Nat → Bool} {q : RQ} {P L : Int} {C : Nat → Nat} (hP : in32 P) (hL : in32 L) (hC : ∀ j, C j < 256) (hG : GB Dr En Bd Mn q) : ∀ l, Up l yX5_format cX5_format 3 none ({ frames := 4, cells := 0, slots := 0, locals := 93 }) D (TY cI cB cJ cZ) [.ref hm, .int (iI P), .int (iI L)] [oM hm r th pg lg wt al dn dp dm tp an ch, aB cB (r 0) 65536 Cm, aN cI (r 1) 256 Dr, aN cI (r 2) 65536 En, aZ cZ (r 4) 256 Ib, aN cI (r 5) 256 Bd, aN cI (r 6) 256 Mn, aN cI (r 7) 23040 q.1, aN cI (r 8) 23040 q.2.1, aL cJ (r 9) 46080 q.2.2.1, aL cJ (r 10) 92160 q.2.2.2] (fun v w1 => v = none ∧ ((¬ fmOk P L ∧ w1 = [oM hm r 1 pg lg wt al dn dp dm tp an ch, aB cB (r 0) 65536 (Cm), aN cI (r 1) 256 (Dr), aN cI (r 2) 65536 (En), aZ cZ (r 4) 256 (Ib), aN cI (r 5) 256 (Bd), aN cI (r 6) 256 (Mn), aN cI (r 7) 23040 (q).1, aN cI (r 8) 23040 (q).2.1, aL cJ (r 9) 46080 (q).2.2.1, aL cJ (r 10) 92160 (q).2.2.2]) ∨ (fmOk P L ∧ ∃ (Cm9 Dr9 En9 : Nat → Nat) (Ib9 : Nat → Bool) (Bd9 Mn9 : Nat → Nat) (q9 : RQ), AGP P.toNat Cm9 (fmC C P.toNat L.toNat) ∧ RM (fmC C P.toNat L.toNat) L.toNat Dr9 En9 Ib9 Bd9 Mn9 q9 ∧ w1 = [oM hm r 0 P.toNat L.toNat 0 (-1) 0 (fmC C P.toNat L.toNat 0) (pF (fmC C P.toNat L.toNat 0)) tp 0 ch, aB cB (r 0) 65536 (Cm9), aN cI (r 1) 256 (Dr9), aN cI (r 2) 65536 (En9), aZ cZ (r 4) 256 (Ib9), aN cI (r 5) 256 (Bd9), aN cI (r 6) 256 (Mn9), aN cI (r 7) 23040 (q9).1, aN cI (r 8) 23040 (q9).2.1, aL cJ (r 9) 46080 (q9).2.2.1, aL cJ (r 10) 92160 (q9).2.2.2]))) := by
  intro l
  refine Up_of (by decide) (Nat.le_of_ble_eq_true rfl) (fun x k hq => ?_)
  obtain ⟨hi1, hi2⟩ := id hP
  obtain ⟨hi3, hi4⟩ := id hL
  refine v_aload_n (n := 1) k dX5_format_0 rfl rfl ?_
  refine v_iconst (n := 2) k dX5_format_1 rfl ?_
  refine v_put (n := 5) k ciX5 0 0 (by decide) fl_X5_1 rfl rfl (rfl) (rfl) (Nat.le_of_ble_eq_true rfl) dX5_format_2 rfl ?_
  refine v_iload_n (n := 6) k dX5_format_5 rfl rfl ?_
  refine v_bipush (n := 8) k dX5_format_6 (by decide) rfl ?_
  refine v_icmp_lt (n := 11) (t := 36) k (⟨by omega, by omega⟩) (⟨by omega, by omega⟩) dX5_format_8 (by decide) rfl (fun c_8 => ?_) (fun c_8 => ?_)
  · have hno : ¬ fmOk P L := by unfold fmOk; omega
    refine v_aload_n (n := 37) k dX5_format_36 rfl rfl ?_
    refine v_iconst (n := 38) k dX5_format_37 rfl ?_
    refine v_put (n := 41) k ciX5 0 0 (by decide) fl_X5_1 rfl rfl (rfl) (rfl) (Nat.le_of_ble_eq_true rfl) dX5_format_38 rfl ?_
    refine v_vretU k hq ?_ rfl dX5_format_41
    exact ⟨rfl, Or.inl ⟨hno, rfl⟩⟩
  · refine v_iload_n (n := 12) k dX5_format_11 rfl rfl ?_
    refine v_sipush (n := 15) k dX5_format_12 (by decide) rfl ?_
    refine v_icmp_gt (n := 18) (t := 36) k (⟨by omega, by omega⟩) (⟨by omega, by omega⟩) dX5_format_15 (by decide) rfl (fun c_15 => ?_) (fun c_15 => ?_)
    · have hno : ¬ fmOk P L := by unfold fmOk; omega
      refine v_aload_n (n := 37) k dX5_format_36 rfl rfl ?_
      refine v_iconst (n := 38) k dX5_format_37 rfl ?_
      refine v_put (n := 41) k ciX5 0 0 (by decide) fl_X5_1 rfl rfl (rfl) (rfl) (Nat.le_of_ble_eq_true rfl) dX5_format_38 rfl ?_
      refine v_vretU k hq ?_ rfl dX5_format_41
      exact ⟨rfl, Or.inl ⟨hno, rfl⟩⟩
    · refine v_iload_n (n := 19) k dX5_format_18 rfl rfl ?_
      refine v_iconst (n := 20) k dX5_format_19 rfl ?_
      refine v_icmp_lt (n := 23) (t := 36) k (⟨by omega, by omega⟩) (⟨by omega, by omega⟩) dX5_format_20 (by decide) rfl (fun c_20 => ?_) (fun c_20 => ?_)
      · have hno : ¬ fmOk P L := by unfold fmOk; omega
        refine v_aload_n (n := 37) k dX5_format_36 rfl rfl ?_
        refine v_iconst (n := 38) k dX5_format_37 rfl ?_
        refine v_put (n := 41) k ciX5 0 0 (by decide) fl_X5_1 rfl rfl (rfl) (rfl) (Nat.le_of_ble_eq_true rfl) dX5_format_38 rfl ?_
        refine v_vretU k hq ?_ rfl dX5_format_41
        exact ⟨rfl, Or.inl ⟨hno, rfl⟩⟩
      · refine v_iload_n (n := 24) k dX5_format_23 rfl rfl ?_
        refine v_bipush (n := 26) k dX5_format_24 (by decide) rfl ?_
        refine v_icmp_gt (n := 29) (t := 36) k (⟨by omega, by omega⟩) (⟨by omega, by omega⟩) dX5_format_26 (by decide) rfl (fun c_26 => ?_) (fun c_26 => ?_)
        · have hno : ¬ fmOk P L := by unfold fmOk; omega
          refine v_aload_n (n := 37) k dX5_format_36 rfl rfl ?_
          refine v_iconst (n := 38) k dX5_format_37 rfl ?_
          refine v_put (n := 41) k ciX5 0 0 (by decide) fl_X5_1 rfl rfl (rfl) (rfl) (Nat.le_of_ble_eq_true rfl) dX5_format_38 rfl ?_
          refine v_vretU k hq ?_ rfl dX5_format_41
          exact ⟨rfl, Or.inl ⟨hno, rfl⟩⟩
        · refine v_iload_n (n := 30) k dX5_format_29 rfl rfl ?_
          refine v_iload_n (n := 31) k dX5_format_30 rfl rfl ?_
          refine v_iconst (n := 32) k dX5_format_31 rfl ?_
          refine v_iadd (n := 33) k dX5_format_32 rfl ?_
          refine v_icmp_ge (n := 36) (t := 42) k (⟨by omega, by omega⟩) (⟨by omega, by omega⟩) dX5_format_33 (by decide) rfl (fun c_33 => ?_) (fun c_33 => ?_)
          · have hok : fmOk P L := by unfold fmOk; omega
            refine v_aload_n (n := 43) k dX5_format_42 rfl rfl ?_
            refine v_iload_n (n := 44) k dX5_format_43 rfl rfl ?_
            refine v_iload_n (n := 45) k dX5_format_44 rfl rfl ?_
            refine v_upV (n := 48) k [0, 1, 2, 3, 4, 5, 6, 7, 8, 9, 10] 0 (z_X5_anew (n := P.toNat) (g := L.toNat) (C := C) (by omega) (by omega) (by omega) (by omega) (by omega) (by omega) (by omega) hC hG) miX5_anew ml_X5_65 (by decide) (by decide) rfl (by decide) rfl rfl rfl rfl (Nat.le_of_ble_eq_true rfl) ⟨Nat.zero_le _, Nat.zero_le _⟩ dX5_format_45 rfl ?_
            rintro _ _ ⟨rfl, Cm9, Dr9, En9, Ib9, Bd9, Mn9, q9, hA9, hRM9, rfl⟩
            dsimp only [wput, List.set, Option.toList, List.nil_append, List.cons_append]
            refine v_vretU k hq ?_ rfl dX5_format_48
            exact ⟨rfl, Or.inr ⟨hok, Cm9, Dr9, En9, Ib9, Bd9, Mn9, q9, hA9, hRM9, rfl⟩⟩
          · have hno : ¬ fmOk P L := by unfold fmOk; omega
            refine v_aload_n (n := 37) k dX5_format_36 rfl rfl ?_
            refine v_iconst (n := 38) k dX5_format_37 rfl ?_
            refine v_put (n := 41) k ciX5 0 0 (by decide) fl_X5_1 rfl rfl (rfl) (rfl) (Nat.le_of_ble_eq_true rfl) dX5_format_38 rfl ?_
            refine v_vretU k hq ?_ rfl dX5_format_41
            exact ⟨rfl, Or.inl ⟨hno, rfl⟩⟩
def fdT (N : Int) (tp : Nat) : Int := if N < 1 ∨ 16 < N then 1 else if 48 < (tp : Int) + N then 2 else 0
def tpF (T : Nat → Nat) (tp : Nat) (A B : Int64) (n : Nat) : Nat → Nat := fun j => if tp ≤ j ∧ j < tp + n then by8 (if j - tp < 8 then A else B) ((j - tp) % 8) else T j
theorem tpF_0 (T : Nat → Nat) (tp : Nat) (A B : Int64) : tpF T tp A B 0 = T := by
  funext j
  unfold tpF
  rw [if_neg (by omega)]
theorem tpF_s {T : Nat → Nat} {tp : Nat} {A B : Int64} {i b : Nat} (h : by8 (if i < 8 then A else B) (i % 8) = b) : upN (tpF T tp A B i) (tp + i) b = tpF T tp A B (i + 1) := by
  funext j
  rw [upN_at]
  unfold tpF
  by_cases e : j = tp + i
  · have e3 : tp ≤ j ∧ j < tp + (i + 1) := by omega
    rw [if_pos e, if_pos e3, show j - tp = i by omega, h]
  · rw [if_neg e]
    by_cases e2 : tp ≤ j ∧ j < tp + i
    · have e3 : tp ≤ j ∧ j < tp + (i + 1) := by omega
      rw [if_pos e2, if_pos e3]
    · have e3 : ¬ (tp ≤ j ∧ j < tp + (i + 1)) := by omega
      rw [if_neg e2, if_neg e3]
theorem i2b8 (v : Int64) {j : Nat} : (iI ((v >>> ((iI ((8 : Int) * ((j % 8 : Nat) : Int))).toInt64 &&& 63)).toInt32.toInt)).toInt8.toInt32 = iI (sb (by8 v (j % 8))) := by
  have e8 : (8 : Int) * ((j % 8 : Nat) : Int) = ((8 * (j % 8) : Nat) : Int) := by omega
  rw [e8, b8_low _ _ (by8_shr v (Nat.mod_lt _ (by decide)))]
  exact sb_c _ (by8_lt _ _)
set_option maxHeartbeats 1000000 in
set_option maxRecDepth 20000 in
theorem lp_X5_feed {D : va_G} {cI cB cJ cZ : ClassId} {x : Kx} {hm : Nat} {r : Nat → Nat} {pg lg : Nat} {wt al dn : Int} {dp dm tp an ch : Nat} {T : Nat → Nat} {Aw Bw : Int64} {n : Nat} (k : Kf x cX5_feed 7 yX5_feed.cls (some .int) D (TY cI cB cJ cZ) ({ frames := 1, cells := 0, slots := 0, locals := 21 })) {A : Nat → Prop} (hn : tp + n ≤ 48) (hn16 : n ≤ 16) (hk9 : Vw x 7 A D true 0 0 [oM hm r 0 pg lg wt al dn dp dm (tp + n) an ch, aB cB (r 11) 48 (tpF T tp Aw Bw n)] 97 [(0, .ref hm), (1, .int (iI ((n : Nat) : Int))), (2, .long Aw), (4, .long Bw), (6, .int (iI ((n : Nat) : Int)))] []) : ∀ (m : Nat) (i : Nat) (I : Int), n < i + m → i ≤ n → I = (i : Int) → Vw x 7 A D true 0 0 [oM hm r 0 pg lg wt al dn dp dm (tp + i) an ch, aB cB (r 11) 48 (tpF T tp Aw Bw i)] 42 [(0, .ref hm), (1, .int (iI ((n : Nat) : Int))), (2, .long Aw), (4, .long Bw), (6, .int (iI I))] [] := by
  intro m
  induction m with
  | zero => intro i I hm9 hi e1; omega
  | succ m ih =>
    intro i I hm9 hi e1
    refine v_iload (n := 44) k dX5_feed_42 rfl rfl ?_
    refine v_iload_n (n := 45) k dX5_feed_44 rfl rfl ?_
    refine v_icmp_ge (n := 48) (t := 97) k (⟨by omega, by omega⟩) (⟨by omega, by omega⟩) dX5_feed_45 (by decide) rfl (fun c_45 => ?_) (fun c_45 => ?_)
    · have e8 : i = n := by omega
      rw [show I = ((n : Nat) : Int) by omega, e8]
      exact hk9
    · refine v_aload_n (n := 49) k dX5_feed_48 rfl rfl ?_
      refine v_get (n := 52) k ciX5 0 19 (by decide) fl_X5_53 rfl rfl dX5_feed_49 rfl ?_
      refine v_aload_n (n := 53) k dX5_feed_52 rfl rfl ?_
      refine v_get (n := 56) k ciX5 0 20 (by decide) fl_X5_172 rfl rfl dX5_feed_53 rfl ?_
      refine v_iload (n := 58) k dX5_feed_56 rfl rfl ?_
      refine v_bipush (n := 60) k dX5_feed_58 (by decide) rfl ?_
      refine v_icmp_ge (n := 63) (t := 67) k (⟨by omega, by omega⟩) (⟨by omega, by omega⟩) dX5_feed_60 (by decide) rfl (fun c_60 => ?_) (fun c_60 => ?_)
      · refine v_lload (n := 69) k dX5_feed_67 rfl rfl ?_
        refine v_bipush (n := 71) k dX5_feed_69 (by decide) rfl ?_
        refine v_iload (n := 73) k dX5_feed_71 rfl rfl ?_
        refine v_bipush (n := 75) k dX5_feed_73 (by decide) rfl ?_
        refine v_irem (n := 76) k (((i % 8 : Nat) : Int)) (ax_ne0 (by omega) (by omega)) (ax_rem e1 rfl (by omega) (by omega) (by omega)) dX5_feed_75 rfl ?_
        refine v_imul (n := 77) k dX5_feed_76 rfl ?_
        refine v_lshr (n := 78) k dX5_feed_77 rfl ?_
        refine v_l2i (n := 79) k dX5_feed_78 rfl ?_
        refine v_i2b (n := 80) k (sb (by8 Bw (i % 8))) (i2b8 Bw) dX5_feed_79 rfl ?_
        refine v_bastN (n := 81) k 1 1 (tp + i) rfl rfl (by omega) (by omega) (by omega) (by8 Bw (i % 8)) (rfl) (by8_lt _ _) dX5_feed_80 rfl ?_
        rw [tpF_s (b := by8 Bw (i % 8)) (by rw [if_neg (by omega)])]
        refine v_aload_n (n := 82) k dX5_feed_81 rfl rfl ?_
        refine v_dup (n := 83) k rfl dX5_feed_82 rfl ?_
        refine v_get (n := 86) k ciX5 0 20 (by decide) fl_X5_172 rfl rfl dX5_feed_83 rfl ?_
        refine v_iconst (n := 87) k dX5_feed_86 rfl ?_
        refine v_iadd (n := 88) k dX5_feed_87 rfl ?_
        refine v_put (n := 91) k ciX5 0 20 (by decide) fl_X5_172 rfl rfl (rfl) (rfl) (Nat.le_of_ble_eq_true rfl) dX5_feed_88 rfl ?_
        refine v_iinc (n := 94) k dX5_feed_91 rfl (by decide) rfl rfl rfl ?_
        refine v_goto (t := 42) k dX5_feed_94 (by decide) ?_
        refine v_ws (ws' := [oM hm r 0 pg lg wt al dn dp dm (tp + (i + 1)) an ch, aB cB (r 11) 48 (tpF T tp Aw Bw (i + 1))]) (by rfl) ?_
        exact ih (i + 1) _ (by omega) (by omega) (by omega)
      · refine v_lload_n (n := 64) k dX5_feed_63 rfl rfl ?_
        refine v_goto (t := 69) k dX5_feed_64 (by decide) ?_
        refine v_bipush (n := 71) k dX5_feed_69 (by decide) rfl ?_
        refine v_iload (n := 73) k dX5_feed_71 rfl rfl ?_
        refine v_bipush (n := 75) k dX5_feed_73 (by decide) rfl ?_
        refine v_irem (n := 76) k (((i % 8 : Nat) : Int)) (ax_ne0 (by omega) (by omega)) (ax_rem e1 rfl (by omega) (by omega) (by omega)) dX5_feed_75 rfl ?_
        refine v_imul (n := 77) k dX5_feed_76 rfl ?_
        refine v_lshr (n := 78) k dX5_feed_77 rfl ?_
        refine v_l2i (n := 79) k dX5_feed_78 rfl ?_
        refine v_i2b (n := 80) k (sb (by8 Aw (i % 8))) (i2b8 Aw) dX5_feed_79 rfl ?_
        refine v_bastN (n := 81) k 1 1 (tp + i) rfl rfl (by omega) (by omega) (by omega) (by8 Aw (i % 8)) (rfl) (by8_lt _ _) dX5_feed_80 rfl ?_
        rw [tpF_s (b := by8 Aw (i % 8)) (by rw [if_pos (by omega)])]
        refine v_aload_n (n := 82) k dX5_feed_81 rfl rfl ?_
        refine v_dup (n := 83) k rfl dX5_feed_82 rfl ?_
        refine v_get (n := 86) k ciX5 0 20 (by decide) fl_X5_172 rfl rfl dX5_feed_83 rfl ?_
        refine v_iconst (n := 87) k dX5_feed_86 rfl ?_
        refine v_iadd (n := 88) k dX5_feed_87 rfl ?_
        refine v_put (n := 91) k ciX5 0 20 (by decide) fl_X5_172 rfl rfl (rfl) (rfl) (Nat.le_of_ble_eq_true rfl) dX5_feed_88 rfl ?_
        refine v_iinc (n := 94) k dX5_feed_91 rfl (by decide) rfl rfl rfl ?_
        refine v_goto (t := 42) k dX5_feed_94 (by decide) ?_
        refine v_ws (ws' := [oM hm r 0 pg lg wt al dn dp dm (tp + (i + 1)) an ch, aB cB (r 11) 48 (tpF T tp Aw Bw (i + 1))]) (by rfl) ?_
        exact ih (i + 1) _ (by omega) (by omega) (by omega)
set_option maxHeartbeats 1000000 in
set_option maxRecDepth 20000 in
theorem z_X5_feed {D : va_G} {cI cB cJ cZ : ClassId} {hm : Nat} {r : Nat → Nat} {th : Int} {pg lg : Nat} {wt al dn : Int} {dp dm tp an ch : Nat} {T : Nat → Nat} {N : Int} {Aw Bw : Int64} (hN : in32 N) (htp : tp ≤ 48) : ∀ l, Up l yX5_feed cX5_feed 7 (some .int) ({ frames := 1, cells := 0, slots := 0, locals := 21 }) D (TY cI cB cJ cZ) [.ref hm, .int (iI N), .long Aw, .long Bw] [oM hm r th pg lg wt al dn dp dm tp an ch, aB cB (r 11) 48 T] (fun v w1 => (fdT N tp ≠ 0 ∧ v = some (.int (iI 0)) ∧ w1 = [oM hm r (fdT N tp) pg lg wt al dn dp dm tp an ch, aB cB (r 11) 48 T]) ∨ (fdT N tp = 0 ∧ v = some (.int (iI ((tp + N.toNat : Nat) : Int))) ∧ w1 = [oM hm r 0 pg lg wt al dn dp dm (tp + N.toNat) an ch, aB cB (r 11) 48 (tpF T tp Aw Bw N.toNat)])) := by
  intro l
  refine Up_of (by decide) (Nat.le_of_ble_eq_true rfl) (fun x k hq => ?_)
  obtain ⟨hi1, hi2⟩ := id hN
  refine v_aload_n (n := 1) k dX5_feed_0 rfl rfl ?_
  refine v_iconst (n := 2) k dX5_feed_1 rfl ?_
  refine v_put (n := 5) k ciX5 0 0 (by decide) fl_X5_1 rfl rfl (rfl) (rfl) (Nat.le_of_ble_eq_true rfl) dX5_feed_2 rfl ?_
  refine v_iload_n (n := 6) k dX5_feed_5 rfl rfl ?_
  refine v_iconst (n := 7) k dX5_feed_6 rfl ?_
  refine v_icmp_lt (n := 10) (t := 16) k (⟨by omega, by omega⟩) (⟨by omega, by omega⟩) dX5_feed_7 (by decide) rfl (fun c_7 => ?_) (fun c_7 => ?_)
  · have ht9 : fdT N tp = 1 := if_pos (by omega)
    refine v_aload_n (n := 17) k dX5_feed_16 rfl rfl ?_
    refine v_iconst (n := 18) k dX5_feed_17 rfl ?_
    refine v_upV (n := 21) k [0] 0 (z_X5_throwing) miX5_throwing ml_X5_175 (by decide) (by decide) rfl (by decide) rfl rfl rfl rfl (Nat.le_of_ble_eq_true rfl) ⟨Nat.zero_le _, Nat.zero_le _⟩ dX5_feed_18 rfl ?_
    rintro _ _ ⟨rfl, rfl⟩
    dsimp only [wput, List.set, Option.toList, List.nil_append, List.cons_append]
    refine v_iretU k hq ?_ rfl dX5_feed_21
    exact Or.inl ⟨by rw [ht9]; decide, rfl, by rw [ht9]⟩
  · refine v_iload_n (n := 11) k dX5_feed_10 rfl rfl ?_
    refine v_bipush (n := 13) k dX5_feed_11 (by decide) rfl ?_
    refine v_icmp_le (n := 16) (t := 22) k (⟨by omega, by omega⟩) (⟨by omega, by omega⟩) dX5_feed_13 (by decide) rfl (fun c_13 => ?_) (fun c_13 => ?_)
    · refine v_aload_n (n := 23) k dX5_feed_22 rfl rfl ?_
      refine v_get (n := 26) k ciX5 0 20 (by decide) fl_X5_172 rfl rfl dX5_feed_23 rfl ?_
      refine v_iload_n (n := 27) k dX5_feed_26 rfl rfl ?_
      refine v_iadd (n := 28) k dX5_feed_27 rfl ?_
      refine v_bipush (n := 30) k dX5_feed_28 (by decide) rfl ?_
      refine v_icmp_le (n := 33) (t := 39) k (⟨by omega, by omega⟩) (⟨by omega, by omega⟩) dX5_feed_30 (by decide) rfl (fun c_30 => ?_) (fun c_30 => ?_)
      · have ht9 : fdT N tp = 0 := (if_neg (by omega)).trans (if_neg (by omega))
        obtain ⟨n, hn⟩ : ∃ n : Nat, N = (n : Int) := ⟨N.toNat, by omega⟩
        subst hn
        refine v_iconst (n := 40) k dX5_feed_39 rfl ?_
        refine v_istore (n := 42) k dX5_feed_40 rfl (by decide) rfl rfl ?_
        have e0 := tpF_0 T tp Aw Bw
        refine v_ws (ws' := [oM hm r 0 pg lg wt al dn dp dm (tp + 0) an ch, aB cB (r 11) 48 (tpF T tp Aw Bw 0)]) (by rw [e0]; rfl) ?_
        refine lp_X5_feed k (by omega) (by omega) ?_ (n + 1) 0 _ (by omega) (by omega) rfl
        refine v_aload_n (n := 98) k dX5_feed_97 rfl rfl ?_
        refine v_get (n := 101) k ciX5 0 20 (by decide) fl_X5_172 rfl rfl dX5_feed_98 rfl ?_
        refine v_iretU k hq ?_ rfl dX5_feed_101
        exact Or.inr ⟨ht9, rfl, rfl⟩
      · have ht9 : fdT N tp = 2 := (if_neg (by omega)).trans (if_pos (by omega))
        refine v_aload_n (n := 34) k dX5_feed_33 rfl rfl ?_
        refine v_iconst (n := 35) k dX5_feed_34 rfl ?_
        refine v_upV (n := 38) k [0] 0 (z_X5_throwing) miX5_throwing ml_X5_175 (by decide) (by decide) rfl (by decide) rfl rfl rfl rfl (Nat.le_of_ble_eq_true rfl) ⟨Nat.zero_le _, Nat.zero_le _⟩ dX5_feed_35 rfl ?_
        rintro _ _ ⟨rfl, rfl⟩
        dsimp only [wput, List.set, Option.toList, List.nil_append, List.cons_append]
        refine v_iretU k hq ?_ rfl dX5_feed_38
        exact Or.inl ⟨by rw [ht9]; decide, rfl, by rw [ht9]⟩
    · have ht9 : fdT N tp = 1 := if_pos (by omega)
      refine v_aload_n (n := 17) k dX5_feed_16 rfl rfl ?_
      refine v_iconst (n := 18) k dX5_feed_17 rfl ?_
      refine v_upV (n := 21) k [0] 0 (z_X5_throwing) miX5_throwing ml_X5_175 (by decide) (by decide) rfl (by decide) rfl rfl rfl rfl (Nat.le_of_ble_eq_true rfl) ⟨Nat.zero_le _, Nat.zero_le _⟩ dX5_feed_18 rfl ?_
      rintro _ _ ⟨rfl, rfl⟩
      dsimp only [wput, List.set, Option.toList, List.nil_append, List.cons_append]
      refine v_iretU k hq ?_ rfl dX5_feed_21
      exact Or.inl ⟨by rw [ht9]; decide, rfl, by rw [ht9]⟩
/-- what get answers, and the value's bytes -/
def gtV (C T : Nat → Nat) (tp : Nat) : Int := if tp < 1 ∨ 16 < tp then -1 else match fnd C (entN C (idx C (hsh T 0 tp))) T tp with
  | none => -1
  | some r => ((pb C (entN C (idx C (hsh T 0 tp))) (rst C (entN C (idx C (hsh T 0 tp))) r + 1) : Nat) : Int)
def gtB (C T : Nat → Nat) (tp : Nat) (An : Nat → Nat) : Nat → Nat := if tp < 1 ∨ 16 < tp then An else match fnd C (entN C (idx C (hsh T 0 tp))) T tp with
  | none => An
  | some r => lo (fun j => pb C (entN C (idx C (hsh T 0 tp))) (rst C (entN C (idx C (hsh T 0 tp))) r + 2 + tp + j)) An (pb C (entN C (idx C (hsh T 0 tp))) (rst C (entN C (idx C (hsh T 0 tp))) r + 1))
set_option maxHeartbeats 1000000 in
set_option maxRecDepth 20000 in
theorem lp_X5_get {D : va_G} {cI cB cJ cZ : ClassId} {x : Kx} {hm : Nat} {r : Nat → Nat} {th : Int} {pg lg : Nat} {wt al dn : Int} {tp an ch : Nat} {C Dr En : Nat → Nat} {Ib : Nat → Bool} {Bd Mn : Nat → Nat} {q : RQ} {T An : Nat → Nat} {u vs : Nat} {F : Nat → Nat} (k : Kf x cX5_get 6 yX5_get.cls (some .int) D (TY cI cB cJ cZ) ({ frames := 3, cells := 0, slots := 0, locals := 69 })) {A : Nat → Prop} (hQ : QB q) (hu : u < 23040) (hvs : vs ≤ 32) (hF : ∀ j, j < vs → vb q u j = F j) (hFl : ∀ j, F j < 256) (hk9 : Vw x 6 A D true 0 0 [oM hm r 0 pg lg wt al dn (C 0) (pF (C 0)) 0 (vs) ch, aN cI (r 2) 65536 En, aN cI (r 6) 256 Mn, aN cI (r 7) 23040 (q).1, aN cI (r 8) 23040 (q).2.1, aL cJ (r 9) 46080 (q).2.2.1, aL cJ (r 10) 92160 (q).2.2.2, aB cB (r 11) 48 T, aB cB (r 12) 32 (lo F An vs)] 119 [(0, .ref hm), (4, .int (iI ((u : Nat) : Int))), (5, .int (iI ((vs : Nat) : Int)))] []) : ∀ (m : Nat) (j : Nat) (J : Int), vs < j + m → j ≤ vs → J = (j : Int) → Vw x 6 A D true 0 0 [oM hm r 0 pg lg wt al dn (C 0) (pF (C 0)) 0 (vs) ch, aN cI (r 2) 65536 En, aN cI (r 6) 256 Mn, aN cI (r 7) 23040 (q).1, aN cI (r 8) 23040 (q).2.1, aL cJ (r 9) 46080 (q).2.2.1, aL cJ (r 10) 92160 (q).2.2.2, aB cB (r 11) 48 T, aB cB (r 12) 32 (lo F An j)] 88 [(0, .ref hm), (4, .int (iI ((u : Nat) : Int))), (5, .int (iI J))] [] := by
  intro m
  induction m with
  | zero => intro j J hm9 hj e1; omega
  | succ m ih =>
    intro j J hm9 hj e1
    refine v_iload (n := 90) k dX5_get_88 rfl rfl ?_
    refine v_aload_n (n := 91) k dX5_get_90 rfl rfl ?_
    refine v_get (n := 94) k ciX5 0 22 (by decide) fl_X5_85 rfl rfl dX5_get_91 rfl ?_
    refine v_icmp_ge (n := 97) (t := 119) k (⟨by omega, by omega⟩) (⟨by omega, by omega⟩) dX5_get_94 (by decide) rfl (fun c_94 => ?_) (fun c_94 => ?_)
    · have e8 : j = vs := by omega
      rw [show J = ((vs : Nat) : Int) by omega, e8]
      exact hk9
    · refine v_aload_n (n := 98) k dX5_get_97 rfl rfl ?_
      refine v_get (n := 101) k ciX5 0 21 (by decide) fl_X5_56 rfl rfl dX5_get_98 rfl ?_
      refine v_iload (n := 103) k dX5_get_101 rfl rfl ?_
      refine v_aload_n (n := 104) k dX5_get_103 rfl rfl ?_
      refine v_iload (n := 106) k dX5_get_104 rfl rfl ?_
      refine v_iload (n := 108) k dX5_get_106 rfl rfl ?_
      refine v_rdVi (n := 111) k [0, 6] 0 (z_X5_valueByte (u := u) (j := j) rfl e1 hu (by omega)) miX5_valueByte ml_X5_121 (by decide) (by decide) rfl (by decide) rfl rfl rfl rfl (Nat.le_of_ble_eq_true rfl) ⟨Nat.zero_le _, Nat.zero_le _⟩ dX5_get_108 rfl ?_
      refine v_i2b (n := 112) k (sb (F j)) (by rw [hF j (by omega)]; exact sb_c _ (hFl j)) dX5_get_111 rfl ?_
      refine v_bastN (n := 113) k 8 1 (j) rfl rfl (by omega) (by omega) (by omega) (F j) (rfl) (hFl j) dX5_get_112 rfl ?_
      rw [lo_s (f := F) rfl]
      refine v_iinc (n := 116) k dX5_get_113 rfl (by decide) rfl rfl rfl ?_
      refine v_goto (t := 88) k dX5_get_116 (by decide) ?_
      exact ih (j + 1) _ (by omega) (by omega) (by omega)
set_option maxHeartbeats 1000000 in
set_option maxRecDepth 20000 in
theorem z_X5_get {D : va_G} {cI cB cJ cZ : ClassId} {hm : Nat} {r : Nat → Nat} {th : Int} {pg lg : Nat} {wt al dn : Int} {tp an ch : Nat} {C Dr En : Nat → Nat} {Ib : Nat → Bool} {Bd Mn : Nat → Nat} {q : RQ} {T An : Nat → Nat} (hdn : dn = 0 ∨ dn = 1) (hU : dn = 0 → FULL C pg lg) (hR : RM C lg Dr En Ib Bd Mn q) (htp : tp ≤ 48) (hT : ∀ j, T j < 256) : ∀ l, Up l yX5_get cX5_get 6 (some .int) ({ frames := 3, cells := 0, slots := 0, locals := 69 }) D (TY cI cB cJ cZ) [.ref hm] [oM hm r th pg lg wt al dn (C 0) (pF (C 0)) tp an ch, aN cI (r 2) 65536 En, aN cI (r 6) 256 Mn, aN cI (r 7) 23040 (q).1, aN cI (r 8) 23040 (q).2.1, aL cJ (r 9) 46080 (q).2.2.1, aL cJ (r 10) 92160 (q).2.2.2, aB cB (r 11) 48 T, aB cB (r 12) 32 (An)] (fun v w1 => (dn = 1 ∧ v = some (.int (iI 0)) ∧ w1 = [oM hm r 1 pg lg wt al dn (C 0) (pF (C 0)) 0 (an) ch, aN cI (r 2) 65536 En, aN cI (r 6) 256 Mn, aN cI (r 7) 23040 (q).1, aN cI (r 8) 23040 (q).2.1, aL cJ (r 9) 46080 (q).2.2.1, aL cJ (r 10) 92160 (q).2.2.2, aB cB (r 11) 48 T, aB cB (r 12) 32 (An)]) ∨ (dn = 0 ∧ v = some (.int (iI (gtV C T tp))) ∧ w1 = [oM hm r 0 pg lg wt al dn (C 0) (pF (C 0)) 0 ((gtV C T tp).toNat) ch, aN cI (r 2) 65536 En, aN cI (r 6) 256 Mn, aN cI (r 7) 23040 (q).1, aN cI (r 8) 23040 (q).2.1, aL cJ (r 9) 46080 (q).2.2.1, aL cJ (r 10) 92160 (q).2.2.2, aB cB (r 11) 48 T, aB cB (r 12) 32 (gtB C T tp An)])) := by
  intro l
  refine Up_of (by decide) (Nat.le_of_ble_eq_true rfl) (fun x k hq => ?_)
  refine v_aload_n (n := 1) k dX5_get_0 rfl rfl ?_
  refine v_iconst (n := 2) k dX5_get_1 rfl ?_
  refine v_put (n := 5) k ciX5 0 0 (by decide) fl_X5_1 rfl rfl (rfl) (rfl) (Nat.le_of_ble_eq_true rfl) dX5_get_2 rfl ?_
  refine v_aload_n (n := 6) k dX5_get_5 rfl rfl ?_
  refine v_get (n := 9) k ciX5 0 20 (by decide) fl_X5_172 rfl rfl dX5_get_6 rfl ?_
  refine v_istore_n (n := 10) k dX5_get_9 rfl (by decide) rfl rfl ?_
  refine v_aload_n (n := 11) k dX5_get_10 rfl rfl ?_
  refine v_iconst (n := 12) k dX5_get_11 rfl ?_
  refine v_put (n := 15) k ciX5 0 20 (by decide) fl_X5_172 rfl rfl (rfl) (rfl) (Nat.le_of_ble_eq_true rfl) dX5_get_12 rfl ?_
  refine v_aload_n (n := 16) k dX5_get_15 rfl rfl ?_
  refine v_get (n := 19) k ciX5 0 6 (by decide) fl_X5_81 rfl rfl dX5_get_16 rfl ?_
  refine v_if_eq (n := 22) (t := 28) k (⟨by omega, by omega⟩) dX5_get_19 (by decide) rfl (fun c_19 => ?_) (fun c_19 => ?_)
  · have hd0 : dn = 0 := by omega
    subst hd0
    refine v_aload_n (n := 29) k dX5_get_28 rfl rfl ?_
    refine v_iconst (n := 30) k dX5_get_29 rfl ?_
    refine v_put (n := 33) k ciX5 0 22 (by decide) fl_X5_85 rfl rfl (rfl) (rfl) (Nat.le_of_ble_eq_true rfl) dX5_get_30 rfl ?_
    refine v_iload_n (n := 34) k dX5_get_33 rfl rfl ?_
    refine v_iconst (n := 35) k dX5_get_34 rfl ?_
    refine v_icmp_lt (n := 38) (t := 44) k (⟨by omega, by omega⟩) (⟨by omega, by omega⟩) dX5_get_35 (by decide) rfl (fun c_35 => ?_) (fun c_35 => ?_)
    · have hgv : gtV C T tp = -1 := if_pos (by omega)
      have hgb : gtB C T tp An = An := if_pos (by omega)
      refine v_iconst (n := 45) k dX5_get_44 rfl ?_
      refine v_iretU k hq ?_ rfl dX5_get_45
      exact Or.inr ⟨rfl, by rw [hgv], by rw [hgb, hgv]; rfl⟩
    · refine v_iload_n (n := 39) k dX5_get_38 rfl rfl ?_
      refine v_bipush (n := 41) k dX5_get_39 (by decide) rfl ?_
      refine v_icmp_le (n := 44) (t := 46) k (⟨by omega, by omega⟩) (⟨by omega, by omega⟩) dX5_get_41 (by decide) rfl (fun c_41 => ?_) (fun c_41 => ?_)
      · have hF := hU rfl
        obtain ⟨w1, w2, w3, w4, w5, w6, w7⟩ := id hF.1.1
        have h14 := hF.1.2.2.2
        have h15 : 2 ^ C 0 ≤ 2 ^ 14 := Nat.pow_le_pow_right (by decide) h14
        have h15b : (2 : Nat) ^ 14 = 16384 := by decide
        have h16 : 0 < 2 ^ C 0 := Nat.pow_pos (by decide)
        have hpf := pF_le15 w4
        have hh := hsh_lt T 0 tp
        have hx := idx_lt (C := C) hh w4
        have hen : En (hsh T 0 tp / 2 ^ (16 - C 0)) = entN C (idx C (hsh T 0 tp)) := hR.2.1 _ hx
        obtain ⟨p1, p2, p3, p4, p5⟩ := hF.2.1 _ hx
        have hRB := hR.rb hF hx
        have hmp := hR.2.2.2.2.2.2.2.1 (entN C (idx C (hsh T 0 tp)))
        have hQ := hR.2.2.2.2.2.2.2.2
        have hfd := fd_eq hRB T tp
        have hg1 : ¬ (tp < 1 ∨ 16 < tp) := by omega
        refine v_aload_n (n := 47) k dX5_get_46 rfl rfl ?_
        refine v_iload_n (n := 48) k dX5_get_47 rfl rfl ?_
        refine v_rdVi (n := 51) k [0, 1, 7] 0 (z_X5_bucketOf (z := tp) rfl (by omega) (by omega) hT) miX5_bucketOf ml_X5_178 (by decide) (by decide) rfl (by decide) rfl rfl rfl rfl (Nat.le_of_ble_eq_true rfl) ⟨Nat.zero_le _, Nat.zero_le _⟩ dX5_get_48 rfl ?_
        rw [hen]
        refine v_istore_n (n := 52) k dX5_get_51 rfl (by decide) rfl rfl ?_
        refine v_aload_n (n := 53) k dX5_get_52 rfl rfl ?_
        refine v_iload_n (n := 54) k dX5_get_53 rfl rfl ?_
        refine v_iload_n (n := 55) k dX5_get_54 rfl rfl ?_
        refine v_rdVi (n := 58) k [0, 2, 3, 5, 7] 0 (z_X5_find (p := entN C (idx C (hsh T 0 tp))) (z := tp) rfl rfl (by omega) (by omega) hmp hQ hT) miX5_find ml_X5_169 (by decide) (by decide) rfl (by decide) rfl rfl rfl rfl (Nat.le_of_ble_eq_true rfl) ⟨Nat.zero_le _, Nat.zero_le _⟩ dX5_get_55 rfl ?_
        rw [hfd]
        have hfi := fdI_c (o := fnd C (entN C (idx C (hsh T 0 tp))) T tp)
        have hfb : in32 (fdI (fnd C (entN C (idx C (hsh T 0 tp))) T tp)) := fdI_in (n := pb C (entN C (idx C (hsh T 0 tp))) 1) (by have := p4.count; have := p4.2.2; omega) (fun r hr => fnd_lt hr)
        generalize fdI (fnd C (entN C (idx C (hsh T 0 tp))) T tp) = Y at hfi hfb ⊢
        refine v_istore_n (n := 59) k dX5_get_58 rfl (by decide) rfl rfl ?_
        refine v_iload_n (n := 60) k dX5_get_59 rfl rfl ?_
        refine v_iconst (n := 61) k dX5_get_60 rfl ?_
        refine v_icmp_ne (n := 64) (t := 66) k (hfb) (⟨by decide, by decide⟩) dX5_get_61 (by decide) rfl (fun c_61 => ?_) (fun c_61 => ?_)
        · obtain ⟨r9, hr9, hY⟩ : ∃ r9, fnd C (entN C (idx C (hsh T 0 tp))) T tp = some r9 ∧ Y = ((r9 : Nat) : Int) := by
            rcases hfi with h9 | ⟨-, h9⟩
            · exact h9
            · exact absurd h9 c_61
          subst hY
          clear hfi
          obtain ⟨hrl, hrk⟩ := fnd_k hr9
          have hmn := hRB.2.1
          obtain ⟨z1, z2, z3, z4⟩ := rec_eq (hRB.2.2 r9 hrl)
          have hvs := (p4.1 r9 hrl).2.2
          have hqb := hQ (90 * entN C (idx C (hsh T 0 tp)) + r9)
          have hgv : gtV C T tp = ((pb C (entN C (idx C (hsh T 0 tp))) (rst C (entN C (idx C (hsh T 0 tp))) r9 + 1) : Nat) : Int) := by
            unfold gtV
            rw [if_neg hg1, hr9]
          have hgb : gtB C T tp An = lo (fun j => pb C (entN C (idx C (hsh T 0 tp))) (rst C (entN C (idx C (hsh T 0 tp))) r9 + 2 + tp + j)) An (pb C (entN C (idx C (hsh T 0 tp))) (rst C (entN C (idx C (hsh T 0 tp))) r9 + 1)) := by
            unfold gtB
            rw [if_neg hg1, hr9]
          refine v_bipush (n := 68) k dX5_get_66 (by decide) rfl ?_
          refine v_iload_n (n := 69) k dX5_get_68 rfl rfl ?_
          refine v_imul (n := 70) k dX5_get_69 rfl ?_
          refine v_iload_n (n := 71) k dX5_get_70 rfl rfl ?_
          refine v_iadd (n := 72) k dX5_get_71 rfl ?_
          rw [show (90 : Int) * ((entN C (idx C (hsh T 0 tp)) : Nat) : Int) + ((r9 : Nat) : Int) = ((90 * entN C (idx C (hsh T 0 tp)) + r9 : Nat) : Int) by omega]
          refine v_istore (n := 74) k dX5_get_72 rfl (by decide) rfl rfl ?_
          refine v_aload_n (n := 75) k dX5_get_74 rfl rfl ?_
          refine v_aload_n (n := 76) k dX5_get_75 rfl rfl ?_
          refine v_get (n := 79) k ciX5 0 16 (by decide) fl_X5_41 rfl rfl dX5_get_76 rfl ?_
          refine v_iload (n := 81) k dX5_get_79 rfl rfl ?_
          refine v_ialdN (n := 82) k 4 0 (90 * entN C (idx C (hsh T 0 tp)) + r9) rfl rfl (by omega) (by omega) (by omega) dX5_get_81 rfl ?_
          rw [z2]
          refine v_put (n := 85) k ciX5 0 22 (by decide) fl_X5_85 rfl rfl (rfl) (rfl) (Nat.le_of_ble_eq_true rfl) dX5_get_82 rfl ?_
          refine v_iconst (n := 86) k dX5_get_85 rfl ?_
          refine v_istore (n := 88) k dX5_get_86 rfl (by decide) rfl rfl ?_
          have e0 := lo_0 (fun j => pb C (entN C (idx C (hsh T 0 tp))) (rst C (entN C (idx C (hsh T 0 tp))) r9 + 2 + tp + j)) An
          refine v_lvf [(0, .ref hm), (4, .int (iI ((90 * entN C (idx C (hsh T 0 tp)) + r9 : Nat) : Int))), (5, .int (iI 0))] ⟨rfl, rfl, rfl, trivial⟩ ?_
          refine v_ws (ws' := [oM hm r 0 pg lg wt al 0 (C 0) (pF (C 0)) 0 (pb C (entN C (idx C (hsh T 0 tp))) (rst C (entN C (idx C (hsh T 0 tp))) r9 + 1)) ch, aN cI (r 2) 65536 En, aN cI (r 6) 256 Mn, aN cI (r 7) 23040 (q).1, aN cI (r 8) 23040 (q).2.1, aL cJ (r 9) 46080 (q).2.2.1, aL cJ (r 10) 92160 (q).2.2.2, aB cB (r 11) 48 T, aB cB (r 12) 32 (lo (fun j => pb C (entN C (idx C (hsh T 0 tp))) (rst C (entN C (idx C (hsh T 0 tp))) r9 + 2 + tp + j)) An 0)]) (by rw [e0]; rfl) ?_
          refine lp_X5_get (u := 90 * entN C (idx C (hsh T 0 tp)) + r9) (vs := pb C (entN C (idx C (hsh T 0 tp))) (rst C (entN C (idx C (hsh T 0 tp))) r9 + 1)) (F := fun j => pb C (entN C (idx C (hsh T 0 tp))) (rst C (entN C (idx C (hsh T 0 tp))) r9 + 2 + tp + j)) (Dr := Dr) (Ib := Ib) (Bd := Bd) (th := 0) (tp := 0) (an := 0) k hQ (by omega) hvs (fun j hj => by rw [z4 j hj, hrk]) (fun j => w3 _) ?_ (pb C (entN C (idx C (hsh T 0 tp))) (rst C (entN C (idx C (hsh T 0 tp))) r9 + 1) + 1) 0 _ (by omega) (by omega) rfl
          refine v_aload_n (n := 120) k dX5_get_119 rfl rfl ?_
          refine v_get (n := 123) k ciX5 0 22 (by decide) fl_X5_85 rfl rfl dX5_get_120 rfl ?_
          refine v_iretU k hq ?_ rfl dX5_get_123
          exact Or.inr ⟨rfl, by rw [hgv], by rw [hgb, hgv]; rfl⟩
        · have hfn : fnd C (entN C (idx C (hsh T 0 tp))) T tp = none := by
            rcases hfi with ⟨r9, -, h9⟩ | ⟨h9, -⟩
            · omega
            · exact h9
          have hgv : gtV C T tp = -1 := by
            unfold gtV
            rw [if_neg hg1, hfn]
          have hgb : gtB C T tp An = An := by
            unfold gtB
            rw [if_neg hg1, hfn]
          refine v_iconst (n := 65) k dX5_get_64 rfl ?_
          refine v_iretU k hq ?_ rfl dX5_get_65
          exact Or.inr ⟨rfl, by rw [hgv], by rw [hgb, hgv]; rfl⟩
      · have hgv : gtV C T tp = -1 := if_pos (by omega)
        have hgb : gtB C T tp An = An := if_pos (by omega)
        refine v_iconst (n := 45) k dX5_get_44 rfl ?_
        refine v_iretU k hq ?_ rfl dX5_get_45
        exact Or.inr ⟨rfl, by rw [hgv], by rw [hgb, hgv]; rfl⟩
  · have hd1 : dn = 1 := by omega
    refine v_aload_n (n := 23) k dX5_get_22 rfl rfl ?_
    refine v_iconst (n := 24) k dX5_get_23 rfl ?_
    refine v_upV (n := 27) k [0] 0 (z_X5_throwing) miX5_throwing ml_X5_175 (by decide) (by decide) rfl (by decide) rfl rfl rfl rfl (Nat.le_of_ble_eq_true rfl) ⟨Nat.zero_le _, Nat.zero_le _⟩ dX5_get_24 rfl ?_
    rintro _ _ ⟨rfl, rfl⟩
    dsimp only [wput, List.set, Option.toList, List.nil_append, List.cons_append]
    refine v_iretU k hq ?_ rfl dX5_get_27
    exact Or.inl ⟨hd1, rfl, rfl⟩
