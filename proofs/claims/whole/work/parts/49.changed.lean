set_option maxHeartbeats 1000000 in
set_option maxRecDepth 20000 in
theorem z_X5_changed {D : va_G} {cI cB cJ cZ : ClassId} {hm : Nat} {r : Nat → Nat} {th : Int} {pg lg : Nat} {wt al dn : Int} {dp dm tp an ch : Nat} {Cm : Nat → Nat} {Dr : Nat → Nat} {En : Nat → Nat} {Bd : Nat → Nat} {Mn : Nat → Nat} {Ou : Nat → Nat} {Cg : Nat → Nat} {Ib : Nat → Bool} {q : RQ} {chs : List (Nat × (Nat → Nat))} {C : Nat → Nat} (hdp : dp ≤ 15) (hdm : dm ≤ 255) (hpg : pg ≤ 255) (hlg : lg ≤ 100) (hG : GB Dr En Bd Mn q) (hGc : ∀ j, Cg j < 256) (hch : ch = chs.length) (hP : PL pg lg chs) (hT : TEL dp dm Dr En Bd Mn q Cg chs) (hA : AGP pg Cm C) (hal : in32 al) (hDone : ∀ a9, sChg (C, wt, al, dn) chs = (true, a9) → dp = a9.1 0 ∧ dm = pF (a9.1 0) ∧ RM a9.1 lg Dr En Ib Bd Mn q) (hOK : ∀ a9, sChg (C, wt, al, dn) chs = (false, a9) → OKM a9.1 pg lg) : ∀ l, Up l yX5_changed cX5_changed 1 (some .int) ({ frames := 3, cells := 0, slots := 0, locals := 70 }) D (TY cI cB cJ cZ) [.ref hm] [oM hm r th pg lg wt al dn dp dm tp an ch, aB cB (r 0) 65536 Cm, aN cI (r 1) 256 Dr, aN cI (r 2) 65536 En, aZ cZ (r 4) 256 Ib, aN cI (r 5) 256 Bd, aN cI (r 6) 256 Mn, aN cI (r 7) 23040 q.1, aN cI (r 8) 23040 q.2.1, aL cJ (r 9) 46080 q.2.2.1, aL cJ (r 10) 92160 q.2.2.2, aN cI (r 13) 256 Ou, aN cI (r 14) 256 Cg] (fun v w1 => ∃ (a9 : DA) (s9 : Int) (Cm9 Ou9 Dr9 En9 : Nat → Nat) (Ib9 : Nat → Bool) (Bd9 Mn9 : Nat → Nat) (q9 : RQ), stC (sChg (C, wt, al, dn) chs) = (s9, a9) ∧ v = some (.int (iI s9)) ∧ AGP pg Cm9 a9.1 ∧ in32 a9.2.2.1 ∧ RM a9.1 lg Dr9 En9 Ib9 Bd9 Mn9 q9 ∧ w1 = [oM hm r th pg lg (a9).2.1 (a9).2.2.1 (a9).2.2.2 ((a9).1 0) (pF ((a9).1 0)) tp an ch, aB cB (r 0) 65536 (Cm9), aN cI (r 1) 256 (Dr9), aN cI (r 2) 65536 (En9), aZ cZ (r 4) 256 (Ib9), aN cI (r 5) 256 (Bd9), aN cI (r 6) 256 (Mn9), aN cI (r 7) 23040 (q9).1, aN cI (r 8) 23040 (q9).2.1, aL cJ (r 9) 46080 (q9).2.2.1, aL cJ (r 10) 92160 (q9).2.2.2, aN cI (r 13) 256 (Ou9), aN cI (r 14) 256 (Cg)]) := by
  intro l
  refine Up_of (by decide) (Nat.le_of_ble_eq_true rfl) (fun x k hq => ?_)
  refine v_aload_n (n := 1) k dX5_changed_0 rfl rfl ?_
  refine v_upV (n := 4) k [0, 1, 2, 3, 5, 6, 7, 8, 9, 10, 11, 12] 0 (z_X5_allWritten (chs := chs) (C := C) hdp hdm hpg hlg hG hGc hch hP hT hA hal) miX5_allWritten ml_X5_136 (by decide) (by decide) rfl (by decide) rfl rfl rfl rfl (Nat.le_of_ble_eq_true rfl) ⟨Nat.zero_le _, Nat.zero_le _⟩ dX5_changed_1 rfl ?_
  rintro _ _ ⟨a9, b9, Cm9, Ou9, hsc, rfl, hA9, hal9, rfl⟩
  dsimp only [wput, List.set, Option.toList, List.nil_append, List.cons_append]
  refine v_if_eq (n := 7) (t := 9) k (bI_in _) dX5_changed_4 (by decide) rfl (fun c_4 => ?_) (fun c_4 => ?_)
  · have hb9 := bI_e0 c_4
    subst hb9
    have hk9 := hOK a9 hsc
    refine v_aload_n (n := 10) k dX5_changed_9 rfl rfl ?_
    refine v_upV (n := 13) k [0, 1, 2, 3, 4, 5, 6, 7, 8, 9, 10] 0 (z_X5_decode (C := a9.1) hA9 hk9.1 hk9.2 hG) miX5_decode ml_X5_88 (by decide) (by decide) rfl (by decide) rfl rfl rfl rfl (Nat.le_of_ble_eq_true rfl) ⟨Nat.zero_le _, Nat.zero_le _⟩ dX5_changed_10 rfl ?_
    rintro _ _ ⟨rfl, Dr9, En9, Ib9, Bd9, Mn9, q9, hRM9, rfl⟩
    dsimp only [wput, List.set, Option.toList, List.nil_append, List.cons_append]
    refine v_iconst (n := 14) k dX5_changed_13 rfl ?_
    refine v_iretU k hq ?_ rfl dX5_changed_14
    exact ⟨a9, 4, Cm9, Ou9, Dr9, En9, Ib9, Bd9, Mn9, q9, by rw [hsc]; rfl, rfl, hA9, hal9, hRM9, rfl⟩
  · have hb9 := bI_n0 c_4
    subst hb9
    obtain ⟨e1, e2, e3⟩ := hDone a9 hsc
    subst e1
    subst e2
    refine v_iconst (n := 8) k dX5_changed_7 rfl ?_
    refine v_iretU k hq ?_ rfl dX5_changed_8
    exact ⟨a9, 0, Cm9, Ou9, Dr, En, Ib, Bd, Mn, q, by rw [hsc]; rfl, rfl, hA9, hal9, e3, rfl⟩
set_option maxHeartbeats 1000000 in
set_option maxRecDepth 20000 in
theorem z_X5_wroteBucket {D : va_G} {cI cB cJ cZ : ClassId} {hm : Nat} {r : Nat → Nat} {th : Int} {pg lg : Nat} {wt al dn : Int} {dp dm tp an ch : Nat} {Cm : Nat → Nat} {Dr : Nat → Nat} {En : Nat → Nat} {Bd : Nat → Nat} {Mn : Nat → Nat} {Ou : Nat → Nat} {Ib : Nat → Bool} {q : RQ} {P : Int} {p : Nat} {C : Nat → Nat} (hP : P = (p : Int)) (hp : p < 256) (hp0 : p ≠ 0) (hdp : dp ≤ 15) (hdm : dm ≤ 255) (hG : GB Dr En Bd Mn q) (hdf : dfM Dr dm p = none) (hbt : btM q p (Mn p) ≤ 252) (hO : ∀ j, j < 256 → bkM Bd Mn q p j < 256) (hA : AGP pg Cm C) (hal : in32 al) (hDone : ∀ a9, sW (C, wt, al, dn) p (bkM Bd Mn q p) = (true, a9) → dp = a9.1 0 ∧ dm = pF (a9.1 0) ∧ RM a9.1 lg Dr En Ib Bd Mn q) (hOK : ∀ a9, sW (C, wt, al, dn) p (bkM Bd Mn q p) = (false, a9) → OKM a9.1 pg lg) : ∀ l, Up l yX5_wroteBucket cX5_wroteBucket 2 (some .int) ({ frames := 3, cells := 0, slots := 0, locals := 70 }) D (TY cI cB cJ cZ) [.ref hm, .int (iI P)] [oM hm r th pg lg wt al dn dp dm tp an ch, aB cB (r 0) 65536 Cm, aN cI (r 1) 256 Dr, aN cI (r 2) 65536 En, aZ cZ (r 4) 256 Ib, aN cI (r 5) 256 Bd, aN cI (r 6) 256 Mn, aN cI (r 7) 23040 q.1, aN cI (r 8) 23040 q.2.1, aL cJ (r 9) 46080 q.2.2.1, aL cJ (r 10) 92160 q.2.2.2, aN cI (r 13) 256 Ou] (fun v w1 => ∃ (a9 : DA) (s9 : Int) (Cm9 Ou9 Dr9 En9 : Nat → Nat) (Ib9 : Nat → Bool) (Bd9 Mn9 : Nat → Nat) (q9 : RQ), stC (sW (C, wt, al, dn) p (bkM Bd Mn q p)) = (s9, a9) ∧ v = some (.int (iI s9)) ∧ AGP pg Cm9 a9.1 ∧ in32 a9.2.2.1 ∧ RM a9.1 lg Dr9 En9 Ib9 Bd9 Mn9 q9 ∧ w1 = [oM hm r th pg lg (a9).2.1 (a9).2.2.1 (a9).2.2.2 ((a9).1 0) (pF ((a9).1 0)) tp an ch, aB cB (r 0) 65536 (Cm9), aN cI (r 1) 256 (Dr9), aN cI (r 2) 65536 (En9), aZ cZ (r 4) 256 (Ib9), aN cI (r 5) 256 (Bd9), aN cI (r 6) 256 (Mn9), aN cI (r 7) 23040 (q9).1, aN cI (r 8) 23040 (q9).2.1, aL cJ (r 9) 46080 (q9).2.2.1, aL cJ (r 10) 92160 (q9).2.2.2, aN cI (r 13) 256 (Ou9)]) := by
  intro l
  refine Up_of (by decide) (Nat.le_of_ble_eq_true rfl) (fun x k hq => ?_)
  refine v_aload_n (n := 1) k dX5_wroteBucket_0 rfl rfl ?_
  refine v_iload_n (n := 2) k dX5_wroteBucket_1 rfl rfl ?_
  refine v_upV (n := 5) k [0, 2, 3, 5, 6, 7, 8, 9, 10, 11] 0 (z_X5_render (p := p) hP hp hdp hdm hG.1 (hG.2.2.2.1 _) hG.2.2.2.2 (fun _ _ => hbt)) miX5_render ml_X5_127 (by decide) (by decide) rfl (by decide) rfl rfl rfl rfl (Nat.le_of_ble_eq_true rfl) ⟨Nat.zero_le _, Nat.zero_le _⟩ dX5_wroteBucket_2 rfl ?_
  rintro _ _ ⟨rfl, rfl⟩
  rw [rnM_b hp0 hdf]
  dsimp only [wput, List.set, Option.toList, List.nil_append, List.cons_append]
  refine v_aload_n (n := 6) k dX5_wroteBucket_5 rfl rfl ?_
  refine v_iload_n (n := 7) k dX5_wroteBucket_6 rfl rfl ?_
  refine v_upV (n := 10) k [0, 1, 11] 0 (z_X5_writes (p := p) (C := C) hP hp hO hal hA) miX5_writes ml_X5_130 (by decide) (by decide) rfl (by decide) rfl rfl rfl rfl (Nat.le_of_ble_eq_true rfl) ⟨Nat.zero_le _, Nat.zero_le _⟩ dX5_wroteBucket_7 rfl ?_
  rintro _ _ ⟨a9, b9, Cm9, hsw, rfl, hA9, rfl⟩
  dsimp only [wput, List.set, Option.toList, List.nil_append, List.cons_append]
  refine v_if_eq (n := 13) (t := 15) k (bI_in _) dX5_wroteBucket_10 (by decide) rfl (fun c_10 => ?_) (fun c_10 => ?_)
  · have hb9 := bI_e0 c_10
    subst hb9
    have hal9 := sW_al (a := (C, wt, al, dn)) hal hsw
    have hk9 := hOK a9 hsw
    refine v_aload_n (n := 16) k dX5_wroteBucket_15 rfl rfl ?_
    refine v_upV (n := 19) k [0, 1, 2, 3, 4, 5, 6, 7, 8, 9, 10] 0 (z_X5_decode (C := a9.1) hA9 hk9.1 hk9.2 hG) miX5_decode ml_X5_88 (by decide) (by decide) rfl (by decide) rfl rfl rfl rfl (Nat.le_of_ble_eq_true rfl) ⟨Nat.zero_le _, Nat.zero_le _⟩ dX5_wroteBucket_16 rfl ?_
    rintro _ _ ⟨rfl, Dr9, En9, Ib9, Bd9, Mn9, q9, hRM9, rfl⟩
    dsimp only [wput, List.set, Option.toList, List.nil_append, List.cons_append]
    refine v_iconst (n := 20) k dX5_wroteBucket_19 rfl ?_
    refine v_iretU k hq ?_ rfl dX5_wroteBucket_20
    exact ⟨a9, 4, Cm9, _, Dr9, En9, Ib9, Bd9, Mn9, q9, by rw [hsw]; rfl, rfl, hA9, hal9, hRM9, rfl⟩
  · have hb9 := bI_n0 c_10
    subst hb9
    have hal9 := sW_al (a := (C, wt, al, dn)) hal hsw
    obtain ⟨e1, e2, e3⟩ := hDone a9 hsw
    subst e1
    subst e2
    refine v_iconst (n := 14) k dX5_wroteBucket_13 rfl ?_
    refine v_iretU k hq ?_ rfl dX5_wroteBucket_14
    exact ⟨a9, 0, Cm9, _, Dr, En, Ib, Bd, Mn, q, by rw [hsw]; rfl, rfl, hA9, hal9, e3, rfl⟩
def ulN (a b k : Nat) : Nat := min k ((b - 1) / 256 + 1) - a / 256
def ulC (Cg Dr : Nat → Nat) (n a m : Nat) : Nat → Nat := fun j => if n ≤ j ∧ j < n + m then Dr (a / 256 + (j - n)) else Cg j
theorem ulC_0 (Cg Dr : Nat → Nat) (n a : Nat) : ulC Cg Dr n a 0 = Cg := by
  funext j
  unfold ulC
  rw [if_neg (by omega)]
theorem ulC_s {Cg Dr : Nat → Nat} {n a m k : Nat} (h : k = a / 256 + m) : upN (ulC Cg Dr n a m) (n + m) (Dr k) = ulC Cg Dr n a (m + 1) := by
  funext j
  rw [upN_at]
  unfold ulC
  by_cases e : j = n + m
  · rw [if_pos e, if_pos (by omega), h, show j - n = m by omega]
  · rw [if_neg e]
    by_cases e2 : n ≤ j ∧ j < n + m
    · rw [if_pos e2, if_pos (by omega)]
    · rw [if_neg e2, if_neg (by omega)]
theorem ulC_lt {Cg Dr : Nat → Nat} (h1 : ∀ j, Cg j < 256) (h2 : ∀ j, Dr j < 256) (n a m j : Nat) : ulC Cg Dr n a m j < 256 := by
  unfold ulC
  split
  · exact h2 _
  · exact h1 _
set_option maxHeartbeats 1000000 in
set_option maxRecDepth 20000 in
theorem lp_X5_unlike1 {D : va_G} {cI cB cJ cZ : ClassId} {x : Kx} {hm : Nat} {r : Nat → Nat} {th : Int} {pg lg : Nat} {wt al dn : Int} {dp dm tp an ch : Nat} {Dr : Nat → Nat} {En : Nat → Nat} {Ot : Nat → Nat} {Cg : Nat → Nat} {n a b : Nat} {F : Int} {N K : Int} {kk : Nat} (k : Kf x cX5_unlike 6 yX5_unlike.cls (some .int) D (TY cI cB cJ cZ) ({ frames := 0, cells := 0, slots := 0, locals := 0 })) {A : Nat → Prop} (hF : F = (n : Int)) (hn : n ≤ 2) (hdp : dp ≤ 15) (hdm : dm = pF dp) (hab : a < b) (hb : b ≤ 2 ^ dp) (hE : ∀ j, En j < 256) (hOt : ∀ j, j < 2 ^ dp → Ot j < 256) (hX : ∀ i, i < 2 ^ dp → (Ot i = En i ↔ ¬ (a ≤ i ∧ i < b))) (hK : K = (kk : Int)) (hkk : kk < dm) (hk9 : ∀ S I : Int, ((S = 1 ∧ a / 256 ≤ kk ∧ kk ≤ (b - 1) / 256) ∨ (S = 0 ∧ ¬ (a / 256 ≤ kk ∧ kk ≤ (b - 1) / 256))) → Vw x 6 A D true 0 0 [oM hm r th pg lg wt al dn dp dm tp an ch, aN cI (r 1) 256 Dr, aN cI (r 2) 65536 En, aN cI (r 3) 65536 Ot, aN cI (r 14) 256 Cg] 82 [(0, .ref hm), (1, .int (iI F)), (2, .int (iI N)), (3, .int (iI K)), (4, .int (iI S)), (5, .int (iI I))] []) : ∀ (m : Nat) (i : Nat) (S I : Int), 256 * kk + 256 < i + m → i ≤ 256 * kk + 256 → 256 * kk ≤ i → I = (i : Int) → ((S = 1 ∧ max a (256 * kk) < min b i) ∨ (S = 0 ∧ ¬ max a (256 * kk) < min b i)) → Vw x 6 A D true 0 0 [oM hm r th pg lg wt al dn dp dm tp an ch, aN cI (r 1) 256 Dr, aN cI (r 2) 65536 En, aN cI (r 3) 65536 Ot, aN cI (r 14) 256 Cg] 22 [(0, .ref hm), (1, .int (iI F)), (2, .int (iI N)), (3, .int (iI K)), (4, .int (iI S)), (5, .int (iI I))] [] := by
  intro m
  induction m with
  | zero => intro i S I hm9 hi hi2 e1 e2; omega
  | succ m ih =>
    intro i S I hm9 hi hi2 e1 e2
    have h15 : 2 ^ dp ≤ 2 ^ 15 := Nat.pow_le_pow_right (by decide) hdp
    have h15b : (2 : Nat) ^ 15 = 32768 := by decide
    have h16 : 0 < 2 ^ dp := Nat.pow_pos (by decide)
    have hpf := pF_le15 hdp
    refine v_iload (n := 24) k dX5_unlike_22 rfl rfl ?_
    refine v_sipush (n := 27) k dX5_unlike_24 (by decide) rfl ?_
    refine v_iload_n (n := 28) k dX5_unlike_27 rfl rfl ?_
    refine v_imul (n := 29) k dX5_unlike_28 rfl ?_
    refine v_sipush (n := 32) k dX5_unlike_29 (by decide) rfl ?_
    refine v_iadd (n := 33) k dX5_unlike_32 rfl ?_
    refine v_icmp_ge (n := 36) (t := 82) k (⟨by omega, by omega⟩) (⟨by omega, by omega⟩) dX5_unlike_33 (by decide) rfl (fun c_33 => ?_) (fun c_33 => ?_)
    · exact hk9 _ _ (by omega)
    · refine v_iload (n := 38) k dX5_unlike_36 rfl rfl ?_
      refine v_iconst (n := 39) k dX5_unlike_38 rfl ?_
      refine v_aload_n (n := 40) k dX5_unlike_39 rfl rfl ?_
      refine v_get (n := 43) k ciX5 0 7 (by decide) fl_X5_95 rfl rfl dX5_unlike_40 rfl ?_
      refine v_ishl (n := 44) k (((2 ^ dp : Nat) : Int)) (by have h9 := ax_shl (a := 1) (d := dp) rfl rfl (by omega) (by omega); rw [Nat.one_mul] at h9; exact h9) dX5_unlike_43 rfl ?_
      refine v_icmp_ge (n := 47) (t := 82) k (⟨by omega, by omega⟩) (⟨by omega, by omega⟩) dX5_unlike_44 (by decide) rfl (fun c_44 => ?_) (fun c_44 => ?_)
      · exact hk9 _ _ (by omega)
      · refine v_iload (n := 49) k dX5_unlike_47 rfl rfl ?_
        refine v_if_ne (n := 52) (t := 69) k (⟨by omega, by omega⟩) dX5_unlike_49 (by decide) rfl (fun c_49 => ?_) (fun c_49 => ?_)
        · refine v_iconst (n := 70) k dX5_unlike_69 rfl ?_
          refine v_goto (t := 74) k dX5_unlike_70 (by decide) ?_
          refine v_istore (n := 76) k dX5_unlike_74 rfl (by decide) rfl rfl ?_
          refine v_iinc (n := 79) k dX5_unlike_76 rfl (by decide) rfl rfl rfl ?_
          refine v_goto (t := 22) k dX5_unlike_79 (by decide) ?_
          exact ih (i + 1) _ _ (by omega) (by omega) (by omega) (by omega) (by omega)
        · have hx9 := hX i (by omega)
          have ho9 := hOt i (by omega)
          have he9 := hE i
          refine v_aload_n (n := 53) k dX5_unlike_52 rfl rfl ?_
          refine v_get (n := 56) k ciX5 0 11 (by decide) fl_X5_25 rfl rfl dX5_unlike_53 rfl ?_
          refine v_iload (n := 58) k dX5_unlike_56 rfl rfl ?_
          refine v_ialdN (n := 59) k 3 0 (i) rfl rfl (by omega) (by omega) (by omega) dX5_unlike_58 rfl ?_
          refine v_aload_n (n := 60) k dX5_unlike_59 rfl rfl ?_
          refine v_get (n := 63) k ciX5 0 10 (by decide) fl_X5_22 rfl rfl dX5_unlike_60 rfl ?_
          refine v_iload (n := 65) k dX5_unlike_63 rfl rfl ?_
          refine v_ialdN (n := 66) k 2 0 (i) rfl rfl (by omega) (by omega) (by omega) dX5_unlike_65 rfl ?_
          refine v_icmp_eq (n := 69) (t := 73) k (⟨by omega, by omega⟩) (⟨by omega, by omega⟩) dX5_unlike_66 (by decide) rfl (fun c_66 => ?_) (fun c_66 => ?_)
          · refine v_iconst (n := 74) k dX5_unlike_73 rfl ?_
            refine v_istore (n := 76) k dX5_unlike_74 rfl (by decide) rfl rfl ?_
            refine v_iinc (n := 79) k dX5_unlike_76 rfl (by decide) rfl rfl rfl ?_
            refine v_goto (t := 22) k dX5_unlike_79 (by decide) ?_
            exact ih (i + 1) _ _ (by omega) (by omega) (by omega) (by omega) (by omega)
          · refine v_iconst (n := 70) k dX5_unlike_69 rfl ?_
            refine v_goto (t := 74) k dX5_unlike_70 (by decide) ?_
            refine v_istore (n := 76) k dX5_unlike_74 rfl (by decide) rfl rfl ?_
            refine v_iinc (n := 79) k dX5_unlike_76 rfl (by decide) rfl rfl rfl ?_
            refine v_goto (t := 22) k dX5_unlike_79 (by decide) ?_
            exact ih (i + 1) _ _ (by omega) (by omega) (by omega) (by omega) (by omega)
set_option maxHeartbeats 1000000 in
set_option maxRecDepth 20000 in
theorem lp_X5_unlike2 {D : va_G} {cI cB cJ cZ : ClassId} {x : Kx} {hm : Nat} {r : Nat → Nat} {th : Int} {pg lg : Nat} {wt al dn : Int} {dp dm tp an ch : Nat} {Dr : Nat → Nat} {En : Nat → Nat} {Ot : Nat → Nat} {Cg : Nat → Nat} {n a b : Nat} {F : Int} (k : Kf x cX5_unlike 6 yX5_unlike.cls (some .int) D (TY cI cB cJ cZ) ({ frames := 0, cells := 0, slots := 0, locals := 0 })) {A : Nat → Prop} (hF : F = (n : Int)) (hn : n ≤ 2) (hdp : dp ≤ 15) (hdm : dm = pF dp) (hab : a < b) (hb : b ≤ 2 ^ dp) (hE : ∀ j, En j < 256) (hOt : ∀ j, j < 2 ^ dp → Ot j < 256) (hX : ∀ i, i < 2 ^ dp → (Ot i = En i ↔ ¬ (a ≤ i ∧ i < b))) (hD : ∀ j, Dr j < 256) (hk9 : Vw x 6 A D true 0 0 [oM hm r th pg lg wt al dn dp dm tp an ch, aN cI (r 1) 256 Dr, aN cI (r 2) 65536 En, aN cI (r 3) 65536 Ot, aN cI (r 14) 256 (ulC Cg Dr n a (dpO a b))] 108 [(0, .ref hm), (1, .int (iI F)), (2, .int (iI ((n + dpO a b : Nat) : Int))), (3, .int (iI (dm : Int)))] []) : ∀ (m : Nat) (i : Nat) (N K : Int), dm < i + m → i ≤ dm → K = (i : Int) → N = ((n + ulN a b i : Nat) : Int) → Vw x 6 A D true 0 0 [oM hm r th pg lg wt al dn dp dm tp an ch, aN cI (r 1) 256 Dr, aN cI (r 2) 65536 En, aN cI (r 3) 65536 Ot, aN cI (r 14) 256 (ulC Cg Dr n a (ulN a b i))] 4 [(0, .ref hm), (1, .int (iI F)), (2, .int (iI N)), (3, .int (iI K))] [] := by
  intro m
  induction m with
  | zero => intro i N K hm9 hi e1 e2; omega
  | succ m ih =>
    intro i N K hm9 hi e1 e2
    have h15 : 2 ^ dp ≤ 2 ^ 15 := Nat.pow_le_pow_right (by decide) hdp
    have h15b : (2 : Nat) ^ 15 = 32768 := by decide
    have h16 : 0 < 2 ^ dp := Nat.pow_pos (by decide)
    have hpf := pF_le15 hdp
    have hix := pF_idx (d := dp) (i := b - 1) (by omega)
    have hd9 := hD i
    have hul : ulN a b i = min i ((b - 1) / 256 + 1) - a / 256 := rfl
    have hul1 : ulN a b (i + 1) = min (i + 1) ((b - 1) / 256 + 1) - a / 256 := rfl
    refine v_iload_n (n := 5) k dX5_unlike_4 rfl rfl ?_
    refine v_aload_n (n := 6) k dX5_unlike_5 rfl rfl ?_
    refine v_get (n := 9) k ciX5 0 8 (by decide) fl_X5_98 rfl rfl dX5_unlike_6 rfl ?_
    refine v_icmp_ge (n := 12) (t := 108) k (⟨by omega, by omega⟩) (⟨by omega, by omega⟩) dX5_unlike_9 (by decide) rfl (fun c_9 => ?_) (fun c_9 => ?_)
    · have e8 : ulN a b i = dpO a b := by
        unfold dpO
        omega
      rw [e8] at e2
      rw [e8, e2, show K = (dm : Int) by omega]
      exact hk9
    · refine v_iconst (n := 13) k dX5_unlike_12 rfl ?_
      refine v_istore (n := 15) k dX5_unlike_13 rfl (by decide) rfl rfl ?_
      refine v_sipush (n := 18) k dX5_unlike_15 (by decide) rfl ?_
      refine v_iload_n (n := 19) k dX5_unlike_18 rfl rfl ?_
      refine v_imul (n := 20) k dX5_unlike_19 rfl ?_
      refine v_istore (n := 22) k dX5_unlike_20 rfl (by decide) rfl rfl ?_
      refine lp_X5_unlike1 k hF hn hdp hdm hab hb hE hOt hX e1 (by omega) (fun S9 I9 hS9 => ?_) 257 (256 * i) _ _ (by omega) (by omega) (by omega) (by omega) (by omega)
      refine v_iload (n := 84) k dX5_unlike_82 rfl rfl ?_
      refine v_if_eq (n := 87) (t := 102) k (⟨by omega, by omega⟩) dX5_unlike_84 (by decide) rfl (fun c_84 => ?_) (fun c_84 => ?_)
      · refine v_iinc (n := 105) k dX5_unlike_102 rfl (by decide) rfl rfl rfl ?_
        refine v_goto (t := 4) k dX5_unlike_105 (by decide) ?_
        refine v_lvf4 ?_
        have e8 : ulN a b (i + 1) = ulN a b i := by omega
        rw [← e8]
        exact ih (i + 1) _ _ (by omega) (by omega) (by omega) (by omega)
      · refine v_aload_n (n := 88) k dX5_unlike_87 rfl rfl ?_
        refine v_get (n := 91) k ciX5 0 24 (by decide) fl_X5_62 rfl rfl dX5_unlike_88 rfl ?_
        refine v_iload_n (n := 92) k dX5_unlike_91 rfl rfl ?_
        refine v_aload_n (n := 93) k dX5_unlike_92 rfl rfl ?_
        refine v_get (n := 96) k ciX5 0 9 (by decide) fl_X5_18 rfl rfl dX5_unlike_93 rfl ?_
        refine v_iload_n (n := 97) k dX5_unlike_96 rfl rfl ?_
        refine v_ialdN (n := 98) k 1 0 (i) rfl rfl (by omega) (by omega) (by omega) dX5_unlike_97 rfl ?_
        refine v_iastN (n := 99) k 4 0 (n + ulN a b i) rfl rfl (by omega) (by omega) (by omega) (Dr i) (rfl) dX5_unlike_98 rfl ?_
        refine v_iinc (n := 102) k dX5_unlike_99 rfl (by decide) rfl rfl rfl ?_
        refine v_iinc (n := 105) k dX5_unlike_102 rfl (by decide) rfl rfl rfl ?_
        refine v_goto (t := 4) k dX5_unlike_105 (by decide) ?_
        refine v_lvf4 ?_
        have e8 : ulN a b (i + 1) = ulN a b i + 1 := by omega
        rw [ulC_s (show i = a / 256 + ulN a b i by omega), ← e8]
        exact ih (i + 1) _ _ (by omega) (by omega) (by omega) (by omega)
set_option maxHeartbeats 1000000 in
set_option maxRecDepth 20000 in
theorem z_X5_unlike {D : va_G} {cI cB cJ cZ : ClassId} {hm : Nat} {r : Nat → Nat} {th : Int} {pg lg : Nat} {wt al dn : Int} {dp dm tp an ch : Nat} {Dr : Nat → Nat} {En : Nat → Nat} {Ot : Nat → Nat} {Cg : Nat → Nat} {n a b : Nat} {F : Int} (hF : F = (n : Int)) (hn : n ≤ 2) (hdp : dp ≤ 15) (hdm : dm = pF dp) (hab : a < b) (hb : b ≤ 2 ^ dp) (hE : ∀ j, En j < 256) (hOt : ∀ j, j < 2 ^ dp → Ot j < 256) (hX : ∀ i, i < 2 ^ dp → (Ot i = En i ↔ ¬ (a ≤ i ∧ i < b))) (hD : ∀ j, Dr j < 256) : ∀ l, Up l yX5_unlike cX5_unlike 6 (some .int) ({ frames := 0, cells := 0, slots := 0, locals := 0 }) D (TY cI cB cJ cZ) [.ref hm, .int (iI F)] [oM hm r th pg lg wt al dn dp dm tp an ch, aN cI (r 1) 256 Dr, aN cI (r 2) 65536 En, aN cI (r 3) 65536 Ot, aN cI (r 14) 256 Cg] (fun v w1 => v = some (.int (iI ((n + dpO a b : Nat) : Int))) ∧ w1 = [oM hm r th pg lg wt al dn dp dm tp an ch, aN cI (r 1) 256 Dr, aN cI (r 2) 65536 En, aN cI (r 3) 65536 Ot, aN cI (r 14) 256 (ulC Cg Dr n a (dpO a b))]) := by
  intro l
  refine Up_of (by decide) (Nat.le_of_ble_eq_true rfl) (fun x k hq => ?_)
  refine v_iload_n (n := 1) k dX5_unlike_0 rfl rfl ?_
  refine v_istore_n (n := 2) k dX5_unlike_1 rfl (by decide) rfl rfl ?_
  refine v_iconst (n := 3) k dX5_unlike_2 rfl ?_
  refine v_istore_n (n := 4) k dX5_unlike_3 rfl (by decide) rfl rfl ?_
  have e0 := ulC_0 Cg Dr n a
  have e1 : ulN a b 0 = 0 := by unfold ulN; omega
  refine v_ws (ws' := [oM hm r th pg lg wt al dn dp dm tp an ch, aN cI (r 1) 256 Dr, aN cI (r 2) 65536 En, aN cI (r 3) 65536 Ot, aN cI (r 14) 256 (ulC Cg Dr n a (ulN a b 0))]) (by rw [e1, e0]) ?_
  refine lp_X5_unlike2 k hF hn hdp hdm hab hb hE hOt hX hD ?_ (dm + 1) 0 _ _ (by omega) (by omega) rfl (by omega)
  refine v_iload_n (n := 109) k dX5_unlike_108 rfl rfl ?_
  refine v_iretU k hq ?_ rfl dX5_unlike_109
  exact ⟨rfl, rfl⟩
