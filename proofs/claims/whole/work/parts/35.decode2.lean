def GB (Dr En Bd Mn : Nat → Nat) (q : RQ) : Prop := (∀ j, Dr j < 256) ∧ (∀ j, En j < 256) ∧ (∀ j, Bd j < 256) ∧ (∀ j, Mn j ≤ 84) ∧ QB q
/-- the reference's arrays say what the disk's bytes say -/
def RM (C : Nat → Nat) (lg : Nat) (Dr En : Nat → Nat) (Ib : Nat → Bool) (Bd Mn : Nat → Nat) (q : RQ) : Prop := (∀ k, k < pF (C 0) → Dr k = C (1 + k)) ∧ (∀ i, i < 2 ^ C 0 → En i = entN C i) ∧ (∀ p, p < 256 → Ib p = (kdN C lg p == 5)) ∧ (∀ p, p < 256 → kdN C lg p = 5 → RB C p Bd Mn q) ∧ GB Dr En Bd Mn q
/-- every entry tells a page; those behind the images that are no directory's are buckets -/
def EB (C : Nat → Nat) (pg lg : Nat) : Prop := ∀ i, i < 2 ^ C 0 → entN C i < pg ∧ (lg + 2 ≤ entN C i → dirB C (pF (C 0)) (entN C i) = false → WB C (entN C i))
theorem pF_div (d : Nat) : (2 ^ d + 255) / 256 = pF d := by
  unfold pF
  split
  · rename_i h
    have h1 : 2 ^ d ≤ 2 ^ 8 := Nat.pow_le_pow_right (by decide) h
    have h2 : 0 < 2 ^ d := Nat.pow_pos (by decide)
    have h3 : (2 : Nat) ^ 8 = 256 := by decide
    omega
  · rename_i h
    have e : 2 ^ d = 256 * 2 ^ (d - 8) := by
      rw [show (256 : Nat) = 2 ^ 8 from rfl, ← Nat.pow_add]
      congr 1
      omega
    omega
theorem lo_lt {f g : Nat → Nat} {n b : Nat} (hf : ∀ j, j < n → f j < b) (hg : ∀ j, g j < b) : ∀ j, lo f g n j < b := by
  intro j
  unfold lo
  split
  · rename_i h; exact hf j h
  · exact hg j
theorem pF_le15 {d : Nat} (h : d ≤ 15) : pF d ≤ 128 := by
  unfold pF
  split
  · decide
  · exact Nat.le_trans (Nat.pow_le_pow_right (n := 2) (j := 7) (by decide) (by omega)) (by decide)
theorem lo_at {f g : Nat → Nat} {n j : Nat} (h : j < n) : lo f g n j = f j := if_pos h
def vkB (C : Nat → Nat) (lg n p : Nat) : Bool := visB C n p && (decide (lg + 2 ≤ p) && !dirB C (pF (C 0)) p)
theorem visB_s (C : Nat → Nat) (n p : Nat) : visB C (n + 1) p = (visB C n p || entN C n == p) := by
  unfold visB
  rw [List.range_succ, List.any_append, List.any_cons, List.any_nil, Bool.or_false]
theorem vkB_kd {C : Nat → Nat} {lg : Nat} (h : ∀ p, p < 256 → True) (p : Nat) : vkB C lg (2 ^ C 0) p = (kdN C lg p == 5) := by
  unfold vkB kdN
  by_cases h0 : p = 0
  · subst h0; rw [if_pos rfl, decide_eq_false (show ¬ lg + 2 ≤ 0 by omega)]; simp
  by_cases h1 : p = 1
  · subst h1; rw [if_neg (by decide), if_pos rfl, decide_eq_false (show ¬ lg + 2 ≤ 1 by omega)]; simp
  rw [if_neg h0, if_neg h1]
  by_cases h2 : p < lg + 2
  · rw [if_pos h2, decide_eq_false (show ¬ lg + 2 ≤ p by omega)]; simp
  rw [if_neg h2, decide_eq_true (show lg + 2 ≤ p by omega)]
  cases dirB C (pF (C 0)) p <;> cases visB C (2 ^ C 0) p <;> rfl
theorem dirM_B {C Dr : Nat → Nat} {n p : Nat} (h : ∀ k, k < n → Dr k = C (1 + k)) : dirM Dr n p = dirB C n p := by
  have key : ∀ m, m ≤ n → (List.range m).any (fun k => Dr k == p) = (List.range m).any (fun k => pb C 0 (1 + k) == p) := by
    intro m
    induction m with
    | zero => intro _; rfl
    | succ m ih =>
      intro hm
      rw [List.range_succ, List.any_append, List.any_append, ih (by omega)]
      simp only [List.any_cons, List.any_nil]
      rw [h m (by omega), pb0]
  exact key n (Nat.le_refl n)
/-- buckets so far -/
def BK (C : Nat → Nat) (lg n : Nat) (Ib : Nat → Bool) (Bd Mn : Nat → Nat) (q : RQ) : Prop := (∀ p, p < 256 → Ib p = vkB C lg n p) ∧ (∀ p, p < 256 → Ib p = true → RB C p Bd Mn q) ∧ (∀ j, Bd j < 256) ∧ (∀ j, Mn j ≤ 84) ∧ QB q
theorem BK.skip {C : Nat → Nat} {lg n : Nat} {Ib : Nat → Bool} {Bd Mn : Nat → Nat} {q : RQ} (h : BK C lg n Ib Bd Mn q) (h1 : (decide (lg + 2 ≤ entN C n) && !dirB C (pF (C 0)) (entN C n)) = false ∨ Ib (entN C n) = true) (he : entN C n < 256) : BK C lg (n + 1) Ib Bd Mn q := by
  refine ⟨fun p hp => ?_, h.2⟩
  rw [h.1 p hp]
  unfold vkB
  rw [visB_s]
  by_cases e : entN C n = p
  · subst e
    rcases h1 with h1 | h1
    · rw [h1]; simp
    · have := h.1 _ he
      rw [h1] at this
      unfold vkB at this
      rw [← this]
      have h2 := this.symm
      rw [Bool.and_eq_true] at h2
      rw [h2.2]; simp
  · rw [show (entN C n == p) = false from beq_false_of_ne e, Bool.or_false]
theorem BK.add {C : Nat → Nat} {lg n : Nat} {Ib : Nat → Bool} {Bd Mn : Nat → Nat} {q q9 : RQ} (h : BK C lg n Ib Bd Mn q) (hC : ∀ j, C j < 256) (hw : WB C (entN C n)) (h1 : lg + 2 ≤ entN C n) (h2 : dirB C (pF (C 0)) (entN C n) = false) (hI : BI q q9 C (entN C n) (pb C (entN C n) 1)) : BK C lg (n + 1) (upB Ib (entN C n) true) (upN Bd (entN C n) (pb C (entN C n) 0)) (upN Mn (entN C n) (pb C (entN C n) 1)) q9 := by
  have hcn := hw.count
  have hbl := hw.2.2
  refine ⟨fun p hp => ?_, fun p hp hb => ?_, fun j => ?_, fun j => ?_, hI.1⟩
  · unfold vkB
    rw [visB_s]
    unfold upB
    by_cases e : p = entN C n
    · subst e
      rw [if_pos rfl, h2, decide_eq_true h1]; simp
    · rw [if_neg e, h.1 p hp, show (entN C n == p) = false from beq_false_of_ne (fun z => e z.symm), Bool.or_false]
      rfl
  · by_cases e : p = entN C n
    · subst e
      exact ⟨if_pos rfl, if_pos rfl, hI.2.2⟩
    · have hb' : Ib p = true := by
        unfold upB at hb
        rw [if_neg e] at hb
        exact hb
      obtain ⟨a1, a2, a3⟩ := h.2.1 p hp hb'
      have hm := h.2.2.2.1 p
      refine ⟨by rw [upN_at, if_neg e]; exact a1, by rw [upN_at, if_neg e]; exact a2, fun r hr => ?_⟩
      rw [hI.2.1 _ (by omega)]
      exact a3 r hr
  · rw [upN_at]
    split
    · exact hC _
    · exact h.2.2.1 j
  · rw [upN_at]
    split
    · omega
    · exact h.2.2.2.1 j
def loB (g : Nat → Bool) (n : Nat) : Nat → Bool := fun j => if j < n then false else g j
theorem loB_s (g : Nat → Bool) (i : Nat) : upB (loB g i) i false = loB g (i + 1) := by
  funext j
  unfold upB loB
  by_cases e : j = i
  · rw [if_pos e, if_pos (by omega)]
  · rw [if_neg e]
    by_cases e2 : j < i
    · rw [if_pos e2, if_pos (by omega)]
    · rw [if_neg e2, if_neg (by omega)]
theorem loB_0 (g : Nat → Bool) : loB g 0 = g := by
  funext j
  unfold loB
  rw [if_neg (by omega)]
set_option maxHeartbeats 1000000 in
set_option maxRecDepth 20000 in
theorem lp_X5_decode1 {D : va_G} {cI cB cJ cZ : ClassId} {x : Kx} {hm : Nat} {r : Nat → Nat} {th : Int} {pg lg : Nat} {wt al dn : Int} {tp an ch : Nat} {Cm C : Nat → Nat} {Dr En Bd Mn : Nat → Nat} {Ib : Nat → Bool} {q : RQ} (k : Kf x cX5_decode 4 yX5_decode.cls none D (TY cI cB cJ cZ) ({ frames := 2, cells := 0, slots := 0, locals := 47 })) {A : Nat → Prop}  (hk9 : Vw x 4 A D true 0 0 [oM hm r th pg lg wt al dn (C 0) (pF (C 0)) tp an ch, aB cB (r 0) 65536 Cm, aN cI (r 1) 256 (Dr), aN cI (r 2) 65536 (En), aZ cZ (r 4) 256 (fun _ => false), aN cI (r 5) 256 (Bd), aN cI (r 6) 256 (Mn), aN cI (r 7) 23040 (q).1, aN cI (r 8) 23040 (q).2.1, aL cJ (r 9) 46080 (q).2.2.1, aL cJ (r 10) 92160 (q).2.2.2] 52 [(0, .ref hm), (1, .int (iI ((2 ^ C 0 : Nat) : Int))), (2, .int (iI 256))] []) : ∀ (m : Nat) (i : Nat) (I : Int), 256 < i + m → i ≤ 256 → I = (i : Int) → Vw x 4 A D true 0 0 [oM hm r th pg lg wt al dn (C 0) (pF (C 0)) tp an ch, aB cB (r 0) 65536 Cm, aN cI (r 1) 256 (Dr), aN cI (r 2) 65536 (En), aZ cZ (r 4) 256 (loB Ib i), aN cI (r 5) 256 (Bd), aN cI (r 6) 256 (Mn), aN cI (r 7) 23040 (q).1, aN cI (r 8) 23040 (q).2.1, aL cJ (r 9) 46080 (q).2.2.1, aL cJ (r 10) 92160 (q).2.2.2] 32 [(0, .ref hm), (1, .int (iI ((2 ^ C 0 : Nat) : Int))), (2, .int (iI I))] [] := by
  intro m
  induction m with
  | zero => intro i I hm9 hi e1; omega
  | succ m ih =>
    intro i I hm9 hi e1
    refine v_iload_n (n := 33) k dX5_decode_32 rfl rfl ?_
    refine v_sipush (n := 36) k dX5_decode_33 (by decide) rfl ?_
    refine v_icmp_ge (n := 39) (t := 52) k (⟨by omega, by omega⟩) (⟨by omega, by omega⟩) dX5_decode_36 (by decide) rfl (fun c_36 => ?_) (fun c_36 => ?_)
    · rw [show i = 256 by omega, show I = 256 by omega]
      refine v_cg 4 (fun j => iI (bI false)) rfl (fun j hj => by unfold loB; rw [if_pos hj]) ?_
      exact hk9
    · refine v_aload_n (n := 40) k dX5_decode_39 rfl rfl ?_
      refine v_get (n := 43) k ciX5 0 12 (by decide) fl_X5_28 rfl rfl dX5_decode_40 rfl ?_
      refine v_iload_n (n := 44) k dX5_decode_43 rfl rfl ?_
      refine v_iconst (n := 45) k dX5_decode_44 rfl ?_
      refine v_zastN (n := 46) k 4 3 (i) rfl rfl (by omega) (by omega) (by omega) (false) (rfl) dX5_decode_45 rfl ?_
      rw [loB_s]
      refine v_iinc (n := 49) k dX5_decode_46 rfl (by decide) rfl rfl rfl ?_
      refine v_goto (t := 32) k dX5_decode_49 (by decide) ?_
      exact ih (i + 1) _ (by omega) (by omega) (by omega)
set_option maxHeartbeats 1000000 in
set_option maxRecDepth 20000 in
theorem lp_X5_decode2 {D : va_G} {cI cB cJ cZ : ClassId} {x : Kx} {hm : Nat} {r : Nat → Nat} {th : Int} {pg lg : Nat} {wt al dn : Int} {tp an ch : Nat} {Cm C : Nat → Nat} {Dr En Bd Mn : Nat → Nat} {Ib : Nat → Bool} {q : RQ} (k : Kf x cX5_decode 4 yX5_decode.cls none D (TY cI cB cJ cZ) ({ frames := 2, cells := 0, slots := 0, locals := 47 })) {A : Nat → Prop} (hA : AGP pg Cm C) (hw : DW C pg lg) (hk9 : Vw x 4 A D true 0 0 [oM hm r th pg lg wt al dn (C 0) (pF (C 0)) tp an ch, aB cB (r 0) 65536 Cm, aN cI (r 1) 256 (lo (fun k => C (1 + k)) Dr (pF (C 0))), aN cI (r 2) 65536 (En), aZ cZ (r 4) 256 (Ib), aN cI (r 5) 256 (Bd), aN cI (r 6) 256 (Mn), aN cI (r 7) 23040 (q).1, aN cI (r 8) 23040 (q).2.1, aL cJ (r 9) 46080 (q).2.2.1, aL cJ (r 10) 92160 (q).2.2.2] 82 [(0, .ref hm), (1, .int (iI ((2 ^ C 0 : Nat) : Int))), (2, .int (iI ((pF (C 0) : Nat) : Int)))] []) : ∀ (m : Nat) (i : Nat) (I : Int), pF (C 0) < i + m → i ≤ pF (C 0) → I = (i : Int) → Vw x 4 A D true 0 0 [oM hm r th pg lg wt al dn (C 0) (pF (C 0)) tp an ch, aB cB (r 0) 65536 Cm, aN cI (r 1) 256 (lo (fun k => C (1 + k)) Dr i), aN cI (r 2) 65536 (En), aZ cZ (r 4) 256 (Ib), aN cI (r 5) 256 (Bd), aN cI (r 6) 256 (Mn), aN cI (r 7) 23040 (q).1, aN cI (r 8) 23040 (q).2.1, aL cJ (r 9) 46080 (q).2.2.1, aL cJ (r 10) 92160 (q).2.2.2] 54 [(0, .ref hm), (1, .int (iI ((2 ^ C 0 : Nat) : Int))), (2, .int (iI I))] [] := by
  intro m
  induction m with
  | zero => intro i I hm9 hi e1; omega
  | succ m ih =>
    intro i I hm9 hi e1
    obtain ⟨w1, w2, w3, w4, w5, w6, w7⟩ := id hw
    have hpf := pF_le15 w4
    refine v_iload_n (n := 55) k dX5_decode_54 rfl rfl ?_
    refine v_aload_n (n := 56) k dX5_decode_55 rfl rfl ?_
    refine v_get (n := 59) k ciX5 0 8 (by decide) fl_X5_98 rfl rfl dX5_decode_56 rfl ?_
    refine v_icmp_ge (n := 62) (t := 82) k (⟨by omega, by omega⟩) (⟨by omega, by omega⟩) dX5_decode_59 (by decide) rfl (fun c_59 => ?_) (fun c_59 => ?_)
    · have e8 : i = pF (C 0) := by omega
      rw [show I = ((pF (C 0) : Nat) : Int) by omega, e8]
      exact hk9
    · refine v_aload_n (n := 63) k dX5_decode_62 rfl rfl ?_
      refine v_get (n := 66) k ciX5 0 9 (by decide) fl_X5_18 rfl rfl dX5_decode_63 rfl ?_
      refine v_iload_n (n := 67) k dX5_decode_66 rfl rfl ?_
      refine v_aload_n (n := 68) k dX5_decode_67 rfl rfl ?_
      refine v_iconst (n := 69) k dX5_decode_68 rfl ?_
      refine v_iconst (n := 70) k dX5_decode_69 rfl ?_
      refine v_iload_n (n := 71) k dX5_decode_70 rfl rfl ?_
      refine v_iadd (n := 72) k dX5_decode_71 rfl ?_
      refine v_rdVi (n := 75) k [0, 1] 0 (z_X5_at (p := 0) (i := 1 + i) rfl (by omega) (by omega) (by omega) w2 hA) miX5_at ml_X5_91 (by decide) (by decide) rfl (by decide) rfl rfl rfl rfl (Nat.le_of_ble_eq_true rfl) ⟨Nat.zero_le _, Nat.zero_le _⟩ dX5_decode_72 rfl ?_
      refine v_iastN (n := 76) k 2 0 (i) rfl rfl (by omega) (by omega) (by omega) (C (1 + i)) (by rw [pb0]) dX5_decode_75 rfl ?_
      rw [lo_s (f := fun k => C (1 + k)) rfl]
      refine v_iinc (n := 79) k dX5_decode_76 rfl (by decide) rfl rfl rfl ?_
      refine v_goto (t := 54) k dX5_decode_79 (by decide) ?_
      exact ih (i + 1) _ (by omega) (by omega) (by omega)
set_option maxHeartbeats 1000000 in
set_option maxRecDepth 20000 in
theorem lp_X5_decode3 {D : va_G} {cI cB cJ cZ : ClassId} {x : Kx} {hm : Nat} {r : Nat → Nat} {th : Int} {pg lg : Nat} {wt al dn : Int} {tp an ch : Nat} {Cm C : Nat → Nat} {Dr En Bd Mn : Nat → Nat} {Ib : Nat → Bool} {q : RQ} (k : Kf x cX5_decode 4 yX5_decode.cls none D (TY cI cB cJ cZ) ({ frames := 2, cells := 0, slots := 0, locals := 47 })) {A : Nat → Prop} (hA : AGP pg Cm C) (hw : DW C pg lg) (hDr : ∀ k, k < pF (C 0) → Dr k = C (1 + k)) (hk9 : Vw x 4 A D true 0 0 [oM hm r th pg lg wt al dn (C 0) (pF (C 0)) tp an ch, aB cB (r 0) 65536 Cm, aN cI (r 1) 256 (Dr), aN cI (r 2) 65536 (lo (entN C) En (2 ^ C 0)), aZ cZ (r 4) 256 (Ib), aN cI (r 5) 256 (Bd), aN cI (r 6) 256 (Mn), aN cI (r 7) 23040 (q).1, aN cI (r 8) 23040 (q).2.1, aL cJ (r 9) 46080 (q).2.2.1, aL cJ (r 10) 92160 (q).2.2.2] 120 [(0, .ref hm), (1, .int (iI ((2 ^ C 0 : Nat) : Int))), (2, .int (iI ((2 ^ C 0 : Nat) : Int)))] []) : ∀ (m : Nat) (i : Nat) (I : Int), 2 ^ C 0 < i + m → i ≤ 2 ^ C 0 → I = (i : Int) → Vw x 4 A D true 0 0 [oM hm r th pg lg wt al dn (C 0) (pF (C 0)) tp an ch, aB cB (r 0) 65536 Cm, aN cI (r 1) 256 (Dr), aN cI (r 2) 65536 (lo (entN C) En i), aZ cZ (r 4) 256 (Ib), aN cI (r 5) 256 (Bd), aN cI (r 6) 256 (Mn), aN cI (r 7) 23040 (q).1, aN cI (r 8) 23040 (q).2.1, aL cJ (r 9) 46080 (q).2.2.1, aL cJ (r 10) 92160 (q).2.2.2] 84 [(0, .ref hm), (1, .int (iI ((2 ^ C 0 : Nat) : Int))), (2, .int (iI I))] [] := by
  intro m
  induction m with
  | zero => intro i I hm9 hi e1; omega
  | succ m ih =>
    intro i I hm9 hi e1
    obtain ⟨w1, w2, w3, w4, w5, w6, w7⟩ := id hw
    have h15 : 2 ^ C 0 ≤ 2 ^ 15 := Nat.pow_le_pow_right (by decide) w4
    have h15b : (2 : Nat) ^ 15 = 32768 := by decide
    refine v_iload_n (n := 85) k dX5_decode_84 rfl rfl ?_
    refine v_iload_n (n := 86) k dX5_decode_85 rfl rfl ?_
    refine v_icmp_ge (n := 89) (t := 120) k (⟨by omega, by omega⟩) (⟨by omega, by omega⟩) dX5_decode_86 (by decide) rfl (fun c_86 => ?_) (fun c_86 => ?_)
    · have e8 : i = 2 ^ C 0 := by omega
      rw [show I = ((2 ^ C 0 : Nat) : Int) by omega, e8]
      exact hk9
    · have hix := pF_idx (d := C 0) (i := i) (by omega)
      have hd9 := hDr _ hix
      have hd8 := w5 _ hix
      refine v_aload_n (n := 90) k dX5_decode_89 rfl rfl ?_
      refine v_get (n := 93) k ciX5 0 10 (by decide) fl_X5_22 rfl rfl dX5_decode_90 rfl ?_
      refine v_iload_n (n := 94) k dX5_decode_93 rfl rfl ?_
      refine v_aload_n (n := 95) k dX5_decode_94 rfl rfl ?_
      refine v_aload_n (n := 96) k dX5_decode_95 rfl rfl ?_
      refine v_get (n := 99) k ciX5 0 9 (by decide) fl_X5_18 rfl rfl dX5_decode_96 rfl ?_
      refine v_iload_n (n := 100) k dX5_decode_99 rfl rfl ?_
      refine v_sipush (n := 103) k dX5_decode_100 (by decide) rfl ?_
      refine v_idiv (n := 104) k (((i / 256 : Nat) : Int)) (ax_ne0 (by omega) (by omega)) (ax_div e1 rfl (by omega) (by omega) (by omega)) dX5_decode_103 rfl ?_
      refine v_ialdN (n := 105) k 2 0 (i / 256) rfl rfl (by omega) (by omega) (by omega) dX5_decode_104 rfl ?_
      refine v_iload_n (n := 106) k dX5_decode_105 rfl rfl ?_
      refine v_sipush (n := 109) k dX5_decode_106 (by decide) rfl ?_
      refine v_irem (n := 110) k (((i % 256 : Nat) : Int)) (ax_ne0 (by omega) (by omega)) (ax_rem e1 rfl (by omega) (by omega) (by omega)) dX5_decode_109 rfl ?_
      refine v_rdVi (n := 113) k [0, 1] 0 (z_X5_at (p := pb C 0 (1 + i / 256)) (i := i % 256) (by rw [hd9, pb0]) rfl (by rw [pb0]; exact hd8) (by omega) w2 hA) miX5_at ml_X5_91 (by decide) (by decide) rfl (by decide) rfl rfl rfl rfl (Nat.le_of_ble_eq_true rfl) ⟨Nat.zero_le _, Nat.zero_le _⟩ dX5_decode_110 rfl ?_
      refine v_iastN (n := 114) k 3 0 (i) rfl rfl (by omega) (by omega) (by omega) (entN C i) (rfl) dX5_decode_113 rfl ?_
      rw [lo_s (f := entN C) rfl]
      refine v_iinc (n := 117) k dX5_decode_114 rfl (by decide) rfl rfl rfl ?_
      refine v_goto (t := 84) k dX5_decode_117 (by decide) ?_
      exact ih (i + 1) _ (by omega) (by omega) (by omega)
theorem v_lvf3 {x : Kx} {nL : Nat} {D : va_G} {A : Nat → Prop} {wr : Bool} {cells slots : Nat} {ws : va_W} {pc : Nat} {a b c e : Nat × Value} {st : List Value} (h : Vw x nL A D wr cells slots ws pc [a, b, c] st) : Vw x nL A D wr cells slots ws pc [a, b, c, e] st := by
  intro H locs ls h1 h2 h3 h4
  refine h H locs ls h1 h2 h3 ⟨h4.1, h4.2.1, fun z hz => h4.2.2 z ?_⟩
  simp only [List.mem_cons, List.not_mem_nil, or_false] at hz ⊢
  rcases hz with h | h | h
  · exact Or.inl h
  · exact Or.inr (Or.inl h)
  · exact Or.inr (Or.inr (Or.inl h))
set_option maxHeartbeats 1000000 in
set_option maxRecDepth 20000 in
theorem lp_X5_decode4 {D : va_G} {cI cB cJ cZ : ClassId} {x : Kx} {hm : Nat} {r : Nat → Nat} {th : Int} {pg lg : Nat} {wt al dn : Int} {tp an ch : Nat} {Cm C : Nat → Nat} {Dr En : Nat → Nat} (k : Kf x cX5_decode 4 yX5_decode.cls none D (TY cI cB cJ cZ) ({ frames := 2, cells := 0, slots := 0, locals := 47 })) {A : Nat → Prop} (hA : AGP pg Cm C) (hw : DW C pg lg) (hDr : ∀ k, k < pF (C 0) → Dr k = C (1 + k)) (hD : ∀ j, Dr j < 256) (hEn : ∀ i, i < 2 ^ C 0 → En i = entN C i) (hEB : EB C pg lg) (hk9 : ∀ (Ib : Nat → Bool) (Bd Mn : Nat → Nat) (q : RQ), BK C lg (2 ^ C 0) Ib Bd Mn q → Vw x 4 A D true 0 0 [oM hm r th pg lg wt al dn (C 0) (pF (C 0)) tp an ch, aB cB (r 0) 65536 Cm, aN cI (r 1) 256 (Dr), aN cI (r 2) 65536 (En), aZ cZ (r 4) 256 (Ib), aN cI (r 5) 256 (Bd), aN cI (r 6) 256 (Mn), aN cI (r 7) 23040 (q).1, aN cI (r 8) 23040 (q).2.1, aL cJ (r 9) 46080 (q).2.2.1, aL cJ (r 10) 92160 (q).2.2.2] 172 [(0, .ref hm), (1, .int (iI ((2 ^ C 0 : Nat) : Int))), (2, .int (iI ((2 ^ C 0 : Nat) : Int)))] []) : ∀ (m : Nat) (i : Nat) (I : Int) (Ib : Nat → Bool) (Bd Mn : Nat → Nat) (q : RQ), 2 ^ C 0 < i + m → i ≤ 2 ^ C 0 → I = (i : Int) → BK C lg i Ib Bd Mn q → Vw x 4 A D true 0 0 [oM hm r th pg lg wt al dn (C 0) (pF (C 0)) tp an ch, aB cB (r 0) 65536 Cm, aN cI (r 1) 256 (Dr), aN cI (r 2) 65536 (En), aZ cZ (r 4) 256 (Ib), aN cI (r 5) 256 (Bd), aN cI (r 6) 256 (Mn), aN cI (r 7) 23040 (q).1, aN cI (r 8) 23040 (q).2.1, aL cJ (r 9) 46080 (q).2.2.1, aL cJ (r 10) 92160 (q).2.2.2] 122 [(0, .ref hm), (1, .int (iI ((2 ^ C 0 : Nat) : Int))), (2, .int (iI I))] [] := by
  intro m
  induction m with
  | zero => intro i I Ib Bd Mn q hm9 hi e1 hI; omega
  | succ m ih =>
    intro i I Ib Bd Mn q hm9 hi e1 hI
    obtain ⟨w1, w2, w3, w4, w5, w6, w7⟩ := id hw
    have h15 : 2 ^ C 0 ≤ 2 ^ 15 := Nat.pow_le_pow_right (by decide) w4
    have h15b : (2 : Nat) ^ 15 = 32768 := by decide
    have hpf := pF_le15 w4
    refine v_iload_n (n := 123) k dX5_decode_122 rfl rfl ?_
    refine v_iload_n (n := 124) k dX5_decode_123 rfl rfl ?_
    refine v_icmp_ge (n := 127) (t := 172) k (⟨by omega, by omega⟩) (⟨by omega, by omega⟩) dX5_decode_124 (by decide) rfl (fun c_124 => ?_) (fun c_124 => ?_)
    · have e8 : i = 2 ^ C 0 := by omega
      rw [show I = ((2 ^ C 0 : Nat) : Int) by omega]
      exact hk9 _ _ _ _ (e8 ▸ hI)
    · have he8 := hEB i (by omega)
      have he9 : entN C i < 256 := by omega
      have hn9 := hEn i (by omega)
      refine v_aload_n (n := 128) k dX5_decode_127 rfl rfl ?_
      refine v_get (n := 131) k ciX5 0 10 (by decide) fl_X5_22 rfl rfl dX5_decode_128 rfl ?_
      refine v_iload_n (n := 132) k dX5_decode_131 rfl rfl ?_
      refine v_ialdN (n := 133) k 3 0 (i) rfl rfl (by omega) (by omega) (by omega) dX5_decode_132 rfl ?_
      rw [hn9]
      refine v_istore_n (n := 134) k dX5_decode_133 rfl (by decide) rfl rfl ?_
      refine v_iload_n (n := 135) k dX5_decode_134 rfl rfl ?_
      refine v_aload_n (n := 136) k dX5_decode_135 rfl rfl ?_
      refine v_get (n := 139) k ciX5 0 3 (by decide) fl_X5_72 rfl rfl dX5_decode_136 rfl ?_
      refine v_iconst (n := 140) k dX5_decode_139 rfl ?_
      refine v_iadd (n := 141) k dX5_decode_140 rfl ?_
      refine v_icmp_lt (n := 144) (t := 166) k (⟨by omega, by omega⟩) (⟨by omega, by omega⟩) dX5_decode_141 (by decide) rfl (fun c_141 => ?_) (fun c_141 => ?_)
      · refine v_iinc (n := 169) k dX5_decode_166 rfl (by decide) rfl rfl rfl ?_
        refine v_goto (t := 122) k dX5_decode_169 (by decide) ?_
        refine v_lvf3 ?_
        exact ih (i + 1) _ _ _ _ _ (by omega) (by omega) (by omega) (hI.skip (Or.inl (by rw [decide_eq_false (show ¬ lg + 2 ≤ entN C i by omega)]; rfl)) he9)
      · refine v_aload_n (n := 145) k dX5_decode_144 rfl rfl ?_
        refine v_iload_n (n := 146) k dX5_decode_145 rfl rfl ?_
        refine v_rdVi (n := 149) k [0, 2] 0 (z_X5_isDirectory (p := entN C i) rfl he9 (by omega) hD) miX5_isDirectory ml_X5_101 (by decide) (by decide) rfl (by decide) rfl rfl rfl rfl (Nat.le_of_ble_eq_true rfl) ⟨Nat.zero_le _, Nat.zero_le _⟩ dX5_decode_146 rfl ?_
        refine v_if_ne (n := 152) (t := 166) k (bI_in _) dX5_decode_149 (by decide) rfl (fun c_149 => ?_) (fun c_149 => ?_)
        · refine v_iinc (n := 169) k dX5_decode_166 rfl (by decide) rfl rfl rfl ?_
          refine v_goto (t := 122) k dX5_decode_169 (by decide) ?_
          refine v_lvf3 ?_
          have hdt : dirB C (pF (C 0)) (entN C i) = true := by
            rw [← dirM_B hDr]
            cases h9 : dirM Dr (pF (C 0)) (entN C i) with
            | true => rfl
            | false => exact absurd (bI_f h9) c_149
          exact ih (i + 1) _ _ _ _ _ (by omega) (by omega) (by omega) (hI.skip (Or.inl (by rw [hdt]; simp)) he9)
        · have hdf : dirB C (pF (C 0)) (entN C i) = false := by
            rw [← dirM_B hDr]
            cases h9 : dirM Dr (pF (C 0)) (entN C i) with
            | false => rfl
            | true => rw [bI_t h9] at c_149; exact absurd c_149 (by decide)
          refine v_aload_n (n := 153) k dX5_decode_152 rfl rfl ?_
          refine v_get (n := 156) k ciX5 0 12 (by decide) fl_X5_28 rfl rfl dX5_decode_153 rfl ?_
          refine v_iload_n (n := 157) k dX5_decode_156 rfl rfl ?_
          refine v_zaldN (n := 158) k 4 3 (entN C i) rfl rfl (by omega) (by omega) (by omega) dX5_decode_157 rfl ?_
          refine v_if_ne (n := 161) (t := 166) k (bI_in _) dX5_decode_158 (by decide) rfl (fun c_158 => ?_) (fun c_158 => ?_)
          · refine v_iinc (n := 169) k dX5_decode_166 rfl (by decide) rfl rfl rfl ?_
            refine v_goto (t := 122) k dX5_decode_169 (by decide) ?_
            refine v_lvf3 ?_
            have hib : Ib (entN C i) = true := by
              cases h9 : Ib (entN C i) with
              | true => rfl
              | false => exact absurd (bI_f h9) c_158
            exact ih (i + 1) _ _ _ _ _ (by omega) (by omega) (by omega) (hI.skip (Or.inr hib) he9)
          · refine v_aload_n (n := 162) k dX5_decode_161 rfl rfl ?_
            refine v_iload_n (n := 163) k dX5_decode_162 rfl rfl ?_
            refine v_upV (n := 166) k [0, 1, 4, 5, 6, 7, 8, 9, 10] 0 (z_X5_bucket (p := entN C i) rfl he8.1 w2 hA w3 (he8.2 (by omega) hdf) hI.2.2.2.2) miX5_bucket ml_X5_105 (by decide) (by decide) rfl (by decide) rfl rfl rfl rfl (Nat.le_of_ble_eq_true rfl) ⟨Nat.zero_le _, Nat.zero_le _⟩ dX5_decode_163 rfl ?_
            rintro _ _ ⟨rfl, q9, hq9, rfl⟩
            dsimp only [wput, List.set, Option.toList, List.nil_append, List.cons_append]
            refine v_iinc (n := 169) k dX5_decode_166 rfl (by decide) rfl rfl rfl ?_
            refine v_goto (t := 122) k dX5_decode_169 (by decide) ?_
            refine v_lvf3 ?_
            exact ih (i + 1) _ _ _ _ _ (by omega) (by omega) (by omega) (hI.add w3 (he8.2 (by omega) hdf) (by omega) hdf hq9)
set_option maxHeartbeats 1000000 in
set_option maxRecDepth 20000 in
theorem z_X5_decode {D : va_G} {cI cB cJ cZ : ClassId} {hm : Nat} {r : Nat → Nat} {th : Int} {pg lg : Nat} {wt al dn : Int} {dp dm tp an ch : Nat} {Cm : Nat → Nat} {Dr : Nat → Nat} {En : Nat → Nat} {Bd : Nat → Nat} {Mn : Nat → Nat} {Ib : Nat → Bool} {q : RQ} {C : Nat → Nat} (hA : AGP pg Cm C) (hw : DW C pg lg) (hEB : EB C pg lg) (hG : GB Dr En Bd Mn q) : ∀ l, Up l yX5_decode cX5_decode 4 none ({ frames := 2, cells := 0, slots := 0, locals := 47 }) D (TY cI cB cJ cZ) [.ref hm] [oM hm r th pg lg wt al dn dp dm tp an ch, aB cB (r 0) 65536 Cm, aN cI (r 1) 256 Dr, aN cI (r 2) 65536 En, aZ cZ (r 4) 256 Ib, aN cI (r 5) 256 Bd, aN cI (r 6) 256 Mn, aN cI (r 7) 23040 q.1, aN cI (r 8) 23040 q.2.1, aL cJ (r 9) 46080 q.2.2.1, aL cJ (r 10) 92160 q.2.2.2] (fun v w1 => v = none ∧ ∃ (Dr9 En9 : Nat → Nat) (Ib9 : Nat → Bool) (Bd9 Mn9 : Nat → Nat) (q9 : RQ), RM C lg Dr9 En9 Ib9 Bd9 Mn9 q9 ∧ w1 = [oM hm r th pg lg wt al dn (C 0) (pF (C 0)) tp an ch, aB cB (r 0) 65536 Cm, aN cI (r 1) 256 (Dr9), aN cI (r 2) 65536 (En9), aZ cZ (r 4) 256 (Ib9), aN cI (r 5) 256 (Bd9), aN cI (r 6) 256 (Mn9), aN cI (r 7) 23040 (q9).1, aN cI (r 8) 23040 (q9).2.1, aL cJ (r 9) 46080 (q9).2.2.1, aL cJ (r 10) 92160 (q9).2.2.2]) := by
  intro l
  refine Up_of (by decide) (Nat.le_of_ble_eq_true rfl) (fun x k hq => ?_)
  obtain ⟨w1, w2, w3, w4, w5, w6, w7⟩ := id hw
  have h15 : 2 ^ C 0 ≤ 2 ^ 15 := Nat.pow_le_pow_right (by decide) w4
  have h15b : (2 : Nat) ^ 15 = 32768 := by decide
  have h16 : 0 < 2 ^ C 0 := Nat.pow_pos (by decide)
  have hpf := pF_le15 w4
  refine v_aload_n (n := 1) k dX5_decode_0 rfl rfl ?_
  refine v_aload_n (n := 2) k dX5_decode_1 rfl rfl ?_
  refine v_iconst (n := 3) k dX5_decode_2 rfl ?_
  refine v_iconst (n := 4) k dX5_decode_3 rfl ?_
  refine v_rdVi (n := 7) k [0, 1] 0 (z_X5_at (p := 0) (i := 0) rfl rfl (by omega) (by omega) w2 hA) miX5_at ml_X5_91 (by decide) (by decide) rfl (by decide) rfl rfl rfl rfl (Nat.le_of_ble_eq_true rfl) ⟨Nat.zero_le _, Nat.zero_le _⟩ dX5_decode_4 rfl ?_
  refine v_put (n := 10) k ciX5 0 7 (by decide) fl_X5_95 rfl rfl (rfl) (rfl) (Nat.le_of_ble_eq_true rfl) dX5_decode_7 rfl ?_
  refine v_iconst (n := 11) k dX5_decode_10 rfl ?_
  refine v_aload_n (n := 12) k dX5_decode_11 rfl rfl ?_
  refine v_get (n := 15) k ciX5 0 7 (by decide) fl_X5_95 rfl rfl dX5_decode_12 rfl ?_
  refine v_ishl (n := 16) k (((2 ^ C 0 : Nat) : Int)) (by have h9 := ax_shl (a := 1) (d := C 0) rfl rfl (by omega) (by omega); rw [Nat.one_mul] at h9; exact h9) dX5_decode_15 rfl ?_
  refine v_istore_n (n := 17) k dX5_decode_16 rfl (by decide) rfl rfl ?_
  refine v_aload_n (n := 18) k dX5_decode_17 rfl rfl ?_
  refine v_iload_n (n := 19) k dX5_decode_18 rfl rfl ?_
  refine v_sipush (n := 22) k dX5_decode_19 (by decide) rfl ?_
  refine v_iadd (n := 23) k dX5_decode_22 rfl ?_
  refine v_sipush (n := 26) k dX5_decode_23 (by decide) rfl ?_
  refine v_idiv (n := 27) k (((pF (C 0) : Nat) : Int)) (ax_ne0 (by omega) (by omega)) (by rw [← pF_div]; exact ax_div (by omega) rfl (by omega) (by omega) (by omega)) dX5_decode_26 rfl ?_
  refine v_put (n := 30) k ciX5 0 8 (by decide) fl_X5_98 rfl rfl (rfl) (rfl) (Nat.le_of_ble_eq_true rfl) dX5_decode_27 rfl ?_
  refine v_iconst (n := 31) k dX5_decode_30 rfl ?_
  refine v_istore_n (n := 32) k dX5_decode_31 rfl (by decide) rfl rfl ?_
  have e0 := loB_0 Ib
  refine v_ws (ws' := [oM hm r th pg lg wt al dn (C 0) (pF (C 0)) tp an ch, aB cB (r 0) 65536 Cm, aN cI (r 1) 256 (Dr), aN cI (r 2) 65536 (En), aZ cZ (r 4) 256 (loB Ib 0), aN cI (r 5) 256 (Bd), aN cI (r 6) 256 (Mn), aN cI (r 7) 23040 (q).1, aN cI (r 8) 23040 (q).2.1, aL cJ (r 9) 46080 (q).2.2.1, aL cJ (r 10) 92160 (q).2.2.2]) (by rw [e0]; rfl) ?_
  refine lp_X5_decode1 k ?_ 257 0 _ (by omega) (by omega) rfl
  refine v_iconst (n := 53) k dX5_decode_52 rfl ?_
  refine v_istore_n (n := 54) k dX5_decode_53 rfl (by decide) rfl rfl ?_
  have e1 := lo_0 (fun k => C (1 + k)) Dr
  refine v_ws (ws' := [oM hm r th pg lg wt al dn (C 0) (pF (C 0)) tp an ch, aB cB (r 0) 65536 Cm, aN cI (r 1) 256 (lo (fun k => C (1 + k)) Dr 0), aN cI (r 2) 65536 (En), aZ cZ (r 4) 256 (fun _ => false), aN cI (r 5) 256 (Bd), aN cI (r 6) 256 (Mn), aN cI (r 7) 23040 (q).1, aN cI (r 8) 23040 (q).2.1, aL cJ (r 9) 46080 (q).2.2.1, aL cJ (r 10) 92160 (q).2.2.2]) (by rw [e1]) ?_
  refine lp_X5_decode2 k hA hw ?_ (pF (C 0) + 1) 0 _ (by omega) (by omega) rfl
  refine v_iconst (n := 83) k dX5_decode_82 rfl ?_
  refine v_istore_n (n := 84) k dX5_decode_83 rfl (by decide) rfl rfl ?_
  have hDr : ∀ k, k < pF (C 0) → lo (fun k => C (1 + k)) Dr (pF (C 0)) k = C (1 + k) := fun k hk => lo_at hk
  have e2 := lo_0 (entN C) En
  refine v_ws (ws' := [oM hm r th pg lg wt al dn (C 0) (pF (C 0)) tp an ch, aB cB (r 0) 65536 Cm, aN cI (r 1) 256 (lo (fun k => C (1 + k)) Dr (pF (C 0))), aN cI (r 2) 65536 (lo (entN C) En 0), aZ cZ (r 4) 256 (fun _ => false), aN cI (r 5) 256 (Bd), aN cI (r 6) 256 (Mn), aN cI (r 7) 23040 (q).1, aN cI (r 8) 23040 (q).2.1, aL cJ (r 9) 46080 (q).2.2.1, aL cJ (r 10) 92160 (q).2.2.2]) (by rw [e2]) ?_
  refine lp_X5_decode3 k hA hw hDr ?_ (2 ^ C 0 + 1) 0 _ (by omega) (by omega) rfl
  refine v_iconst (n := 121) k dX5_decode_120 rfl ?_
  refine v_istore_n (n := 122) k dX5_decode_121 rfl (by decide) rfl rfl ?_
  have hD : ∀ j, lo (fun k => C (1 + k)) Dr (pF (C 0)) j < 256 := lo_lt (fun j _ => w3 _) hG.1
  refine lp_X5_decode4 k hA hw hDr hD (fun i hi => lo_at hi) hEB (fun Ib9 Bd9 Mn9 q9 hK9 => ?_) (2 ^ C 0 + 1) 0 _ _ _ _ q (by omega) (by omega) rfl ⟨fun p hp => by unfold vkB; simp [visB], fun p hp hb => (Bool.noConfusion hb), hG.2.2.1, hG.2.2.2.1, hG.2.2.2.2⟩
  refine v_vretU k hq ?_ rfl dX5_decode_172
  refine ⟨rfl, _, _, Ib9, Bd9, Mn9, q9, ⟨hDr, fun i hi => lo_at hi, fun p hp => ?_, fun p hp h5 => ?_, hD, lo_lt (fun j _ => w3 _) hG.2.1, hK9.2.2.1, hK9.2.2.2.1, hK9.2.2.2.2⟩, rfl⟩
  · rw [hK9.1 p hp]
    exact vkB_kd (fun _ _ => trivial) p
  · refine hK9.2.1 p hp ?_
    rw [hK9.1 p hp, vkB_kd (fun _ _ => trivial) p, h5]
    rfl
