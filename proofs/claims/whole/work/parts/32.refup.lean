/-- the record x of the reference as a row of bytes -/
def rcB (q : RQ) (y : Nat) : List Nat := q.1 y :: q.2.1 y :: ((List.range (q.1 y)).map (kb q y) ++ (List.range (q.2.1 y)).map (vb q y))
theorem rcB_ext {q q' : RQ} {y z : Nat} (h1 : q'.1 y = q.1 z) (h2 : q'.2.1 y = q.2.1 z) (h3 : ∀ j, j < q.1 z → kb q' y j = kb q z j) (h4 : ∀ j, j < q.2.1 z → vb q' y j = vb q z j) : rcB q' y = rcB q z := by
  unfold rcB
  rw [h1, h2, List.map_congr_left (fun j hj => h3 j (List.mem_range.mp hj)), List.map_congr_left (fun j hj => h4 j (List.mem_range.mp hj))]
theorem rcB_len (q : RQ) (y : Nat) : (rcB q y).length = 2 + q.1 y + q.2.1 y := by
  simp [rcB]
  omega
def cpL2 (K : Nat → Int64) (f t : Nat) : Nat → Int64 := vp_updL (vp_updL K (2 * t + 0) (K (2 * f + 0))) (2 * t + 1) ((vp_updL K (2 * t + 0) (K (2 * f + 0))) (2 * f + 1))
def c4 (K : Nat → Int64) (f t k : Nat) : Nat → Int64 := vp_updL K (4 * t + k) (K (4 * f + k))
def cpL4 (K : Nat → Int64) (f t : Nat) : Nat → Int64 := c4 (c4 (c4 (c4 K f t 0) f t 1) f t 2) f t 3
def cpQ (q : RQ) (f t : Nat) : RQ := (upN q.1 t (q.1 f), upN q.2.1 t (q.2.1 f), cpL2 q.2.2.1 f t, cpL4 q.2.2.2 f t)
theorem cpL2_at {K : Nat → Int64} {f t : Nat} (h : f ≠ t) (y k : Nat) (hk : k < 2) : cpL2 K f t (2 * y + k) = if y = t then K (2 * f + k) else K (2 * y + k) := by
  unfold cpL2 vp_updL
  by_cases e : y = t
  · subst e
    rcases (by omega : k = 0 ∨ k = 1) with rfl | rfl
    · rw [if_neg (by omega), if_pos rfl, if_pos rfl]
    · rw [if_pos rfl, if_neg (by omega), if_pos rfl]
  · rw [if_neg (by omega), if_neg (by omega), if_neg e]
theorem c4_at {K : Nat → Int64} {f t k : Nat} (y j : Nat) (hj : j < 4) (hk : k < 4) : c4 K f t k (4 * y + j) = if y = t ∧ j = k then K (4 * f + k) else K (4 * y + j) := by
  unfold c4 vp_updL
  by_cases e : y = t ∧ j = k
  · rw [if_pos (by omega), if_pos e]
  · rw [if_neg (by omega), if_neg e]
theorem cpL4_at {K : Nat → Int64} {f t : Nat} (h : f ≠ t) (y k : Nat) (hk : k < 4) : cpL4 K f t (4 * y + k) = if y = t then K (4 * f + k) else K (4 * y + k) := by
  unfold cpL4
  by_cases e : y = t
  · subst e
    rw [if_pos rfl]
    have out : ∀ j, j < 4 → ∀ K' : Nat → Int64, ∀ i, i < 4 → c4 K' f y i (4 * f + j) = K' (4 * f + j) := fun j hj K' i hi => by rw [c4_at _ _ hj hi, if_neg (fun z => h z.1)]
    rw [c4_at _ k hk (by decide)]
    by_cases e3 : k = 3
    · rw [if_pos ⟨rfl, e3⟩, e3, out 3 (by decide) _ 2 (by decide), out 3 (by decide) _ 1 (by decide), out 3 (by decide) _ 0 (by decide)]
    rw [if_neg (fun z => e3 z.2), c4_at _ k hk (by decide)]
    by_cases e2 : k = 2
    · rw [if_pos ⟨rfl, e2⟩, e2, out 2 (by decide) _ 1 (by decide), out 2 (by decide) _ 0 (by decide)]
    rw [if_neg (fun z => e2 z.2), c4_at _ k hk (by decide)]
    by_cases e1 : k = 1
    · rw [if_pos ⟨rfl, e1⟩, e1, out 1 (by decide) _ 0 (by decide)]
    rw [if_neg (fun z => e1 z.2), c4_at _ k hk (by decide), if_pos ⟨rfl, by omega⟩, show k = 0 by omega]
  · rw [if_neg e]
    rw [c4_at _ _ hk (by decide), if_neg (fun z => e z.1), c4_at _ _ hk (by decide), if_neg (fun z => e z.1), c4_at _ _ hk (by decide), if_neg (fun z => e z.1), c4_at _ _ hk (by decide), if_neg (fun z => e z.1)]
theorem upN_at (g : Nat → Nat) (k v j : Nat) : upN g k v j = if j = k then v else g j := rfl
theorem QB_cp {q : RQ} (h : QB q) (f t : Nat) : QB (cpQ q f t) := by
  intro y
  show upN q.1 t (q.1 f) y ≤ 16 ∧ upN q.2.1 t (q.2.1 f) y ≤ 32
  rw [upN_at, upN_at]
  split
  · exact h f
  · exact h y
theorem rcB_cp {q : RQ} (h : QB q) {f t : Nat} (hft : f ≠ t) (y : Nat) : rcB (cpQ q f t) y = if y = t then rcB q f else rcB q y := by
  by_cases e : y = t
  · rw [if_pos e]
    refine rcB_ext (by show upN q.1 t (q.1 f) y = _; rw [upN_at, if_pos e]) (by show upN q.2.1 t (q.2.1 f) y = _; rw [upN_at, if_pos e]) (fun j hj => ?_) (fun j hj => ?_)
    · have := h f
      show by8 (cpL2 q.2.2.1 f t (2 * y + j / 8)) (j % 8) = _
      rw [cpL2_at hft _ _ (by omega), if_pos e]
      rfl
    · have := h f
      show by8 (cpL4 q.2.2.2 f t (4 * y + j / 8)) (j % 8) = _
      rw [cpL4_at hft _ _ (by omega), if_pos e]
      rfl
  · rw [if_neg e]
    refine rcB_ext (by show upN q.1 t (q.1 f) y = _; rw [upN_at, if_neg e]) (by show upN q.2.1 t (q.2.1 f) y = _; rw [upN_at, if_neg e]) (fun j hj => ?_) (fun j hj => ?_)
    · have := h y
      show by8 (cpL2 q.2.2.1 f t (2 * y + j / 8)) (j % 8) = _
      rw [cpL2_at hft _ _ (by omega), if_neg e]
      rfl
    · have := h y
      show by8 (cpL4 q.2.2.2 f t (4 * y + j / 8)) (j % 8) = _
      rw [cpL4_at hft _ _ (by omega), if_neg e]
      rfl
def dpQ (q : RQ) (a : Nat) : Nat → RQ
  | 0 => q
  | n + 1 => cpQ (dpQ q a n) (a + n + 1) (a + n)
theorem QB_dp {q : RQ} (h : QB q) (a : Nat) : ∀ n, QB (dpQ q a n) := by
  intro n
  induction n with
  | zero => exact h
  | succ n ih => exact QB_cp ih _ _
theorem rcB_dp {q : RQ} (h : QB q) (a : Nat) : ∀ n y, rcB (dpQ q a n) y = if a ≤ y ∧ y < a + n then rcB q (y + 1) else rcB q y := by
  intro n
  induction n with
  | zero => intro y; rw [if_neg (by omega)]; rfl
  | succ n ih =>
    intro y
    show rcB (cpQ (dpQ q a n) (a + n + 1) (a + n)) y = _
    rw [rcB_cp (QB_dp h a n) (by omega)]
    by_cases e : y = a + n
    · rw [if_pos e, ih, if_neg (by omega), if_pos (by omega), e]
    · rw [if_neg e, ih]
      by_cases e2 : a ≤ y ∧ y < a + n
      · rw [if_pos e2, if_pos (by omega)]
      · rw [if_neg e2, if_neg (by omega)]
set_option maxHeartbeats 1000000 in
set_option maxRecDepth 20000 in
theorem z_X5_copyRecord {D : va_G} {cI cB cJ cZ : ClassId} {hm : Nat} {r : Nat → Nat} {th : Int} {pg lg : Nat} {wt al dn : Int} {dp dm tp an ch : Nat} {q : RQ} {F G : Int} {f t : Nat} (hF : F = (f : Int)) (hG : G = (t : Int)) (hf : f < 23040) (ht : t < 23040) : ∀ l, Up l yX5_copyRecord cX5_copyRecord 4 none ({ frames := 0, cells := 0, slots := 0, locals := 0 }) D (TY cI cB cJ cZ) [.ref hm, .int (iI F), .int (iI G)] [oM hm r th pg lg wt al dn dp dm tp an ch, aN cI (r 7) 23040 q.1, aN cI (r 8) 23040 q.2.1, aL cJ (r 9) 46080 q.2.2.1, aL cJ (r 10) 92160 q.2.2.2] (fun v w1 => v = none ∧ w1 = [oM hm r th pg lg wt al dn dp dm tp an ch, aN cI (r 7) 23040 (cpQ q f t).1, aN cI (r 8) 23040 (cpQ q f t).2.1, aL cJ (r 9) 46080 (cpQ q f t).2.2.1, aL cJ (r 10) 92160 (cpQ q f t).2.2.2]) := by
  intro l
  refine Up_of (by decide) (Nat.le_of_ble_eq_true rfl) (fun x k hq => ?_)
  refine v_aload_n (n := 1) k dX5_copyRecord_0 rfl rfl ?_
  refine v_get (n := 4) k ciX5 0 15 (by decide) fl_X5_38 rfl rfl dX5_copyRecord_1 rfl ?_
  refine v_iload_n (n := 5) k dX5_copyRecord_4 rfl rfl ?_
  refine v_aload_n (n := 6) k dX5_copyRecord_5 rfl rfl ?_
  refine v_get (n := 9) k ciX5 0 15 (by decide) fl_X5_38 rfl rfl dX5_copyRecord_6 rfl ?_
  refine v_iload_n (n := 10) k dX5_copyRecord_9 rfl rfl ?_
  refine v_ialdN (n := 11) k 1 0 (f) rfl rfl (by omega) (by omega) (by omega) dX5_copyRecord_10 rfl ?_
  refine v_iastN (n := 12) k 1 0 (t) rfl rfl (by omega) (by omega) (by omega) (q.1 f) (rfl) dX5_copyRecord_11 rfl ?_
  refine v_aload_n (n := 13) k dX5_copyRecord_12 rfl rfl ?_
  refine v_get (n := 16) k ciX5 0 16 (by decide) fl_X5_41 rfl rfl dX5_copyRecord_13 rfl ?_
  refine v_iload_n (n := 17) k dX5_copyRecord_16 rfl rfl ?_
  refine v_aload_n (n := 18) k dX5_copyRecord_17 rfl rfl ?_
  refine v_get (n := 21) k ciX5 0 16 (by decide) fl_X5_41 rfl rfl dX5_copyRecord_18 rfl ?_
  refine v_iload_n (n := 22) k dX5_copyRecord_21 rfl rfl ?_
  refine v_ialdN (n := 23) k 2 0 (f) rfl rfl (by omega) (by omega) (by omega) dX5_copyRecord_22 rfl ?_
  refine v_iastN (n := 24) k 2 0 (t) rfl rfl (by omega) (by omega) (by omega) (q.2.1 f) (rfl) dX5_copyRecord_23 rfl ?_
  refine v_iconst (n := 25) k dX5_copyRecord_24 rfl ?_
  refine v_istore_n (n := 26) k dX5_copyRecord_25 rfl (by decide) rfl rfl ?_
  refine v_iload_n (n := 27) k dX5_copyRecord_26 rfl rfl ?_
  refine v_iconst (n := 28) k dX5_copyRecord_27 rfl ?_
  refine v_icmp_ge (n := 31) (t := 57) k (⟨by omega, by omega⟩) (⟨by omega, by omega⟩) dX5_copyRecord_28 (by decide) rfl (fun c_28 => ?_) (fun c_28 => ?_)
  · exfalso; omega
  · refine v_aload_n (n := 32) k dX5_copyRecord_31 rfl rfl ?_
    refine v_get (n := 35) k ciX5 0 17 (by decide) fl_X5_45 rfl rfl dX5_copyRecord_32 rfl ?_
    refine v_iconst (n := 36) k dX5_copyRecord_35 rfl ?_
    refine v_iload_n (n := 37) k dX5_copyRecord_36 rfl rfl ?_
    refine v_imul (n := 38) k dX5_copyRecord_37 rfl ?_
    refine v_iload_n (n := 39) k dX5_copyRecord_38 rfl rfl ?_
    refine v_iadd (n := 40) k dX5_copyRecord_39 rfl ?_
    refine v_aload_n (n := 41) k dX5_copyRecord_40 rfl rfl ?_
    refine v_get (n := 44) k ciX5 0 17 (by decide) fl_X5_45 rfl rfl dX5_copyRecord_41 rfl ?_
    refine v_iconst (n := 45) k dX5_copyRecord_44 rfl ?_
    refine v_iload_n (n := 46) k dX5_copyRecord_45 rfl rfl ?_
    refine v_imul (n := 47) k dX5_copyRecord_46 rfl ?_
    refine v_iload_n (n := 48) k dX5_copyRecord_47 rfl rfl ?_
    refine v_iadd (n := 49) k dX5_copyRecord_48 rfl ?_
    refine v_laldN (n := 50) k 3 2 (2 * f + 0) rfl rfl (by omega) (by omega) (by omega) dX5_copyRecord_49 rfl ?_
    refine v_lastN (n := 51) k 3 2 (2 * t + 0) rfl rfl (by omega) (by omega) (by omega)  dX5_copyRecord_50 rfl ?_
    refine v_iinc (n := 54) k dX5_copyRecord_51 rfl (by decide) rfl rfl rfl ?_
    refine v_goto (t := 26) k dX5_copyRecord_54 (by decide) ?_
    refine v_iload_n (n := 27) k dX5_copyRecord_26 rfl rfl ?_
    refine v_iconst (n := 28) k dX5_copyRecord_27 rfl ?_
    refine v_icmp_ge (n := 31) (t := 57) k (⟨by omega, by omega⟩) (⟨by omega, by omega⟩) dX5_copyRecord_28 (by decide) rfl (fun c_28 => ?_) (fun c_28 => ?_)
    · exfalso; omega
    · refine v_aload_n (n := 32) k dX5_copyRecord_31 rfl rfl ?_
      refine v_get (n := 35) k ciX5 0 17 (by decide) fl_X5_45 rfl rfl dX5_copyRecord_32 rfl ?_
      refine v_iconst (n := 36) k dX5_copyRecord_35 rfl ?_
      refine v_iload_n (n := 37) k dX5_copyRecord_36 rfl rfl ?_
      refine v_imul (n := 38) k dX5_copyRecord_37 rfl ?_
      refine v_iload_n (n := 39) k dX5_copyRecord_38 rfl rfl ?_
      refine v_iadd (n := 40) k dX5_copyRecord_39 rfl ?_
      refine v_aload_n (n := 41) k dX5_copyRecord_40 rfl rfl ?_
      refine v_get (n := 44) k ciX5 0 17 (by decide) fl_X5_45 rfl rfl dX5_copyRecord_41 rfl ?_
      refine v_iconst (n := 45) k dX5_copyRecord_44 rfl ?_
      refine v_iload_n (n := 46) k dX5_copyRecord_45 rfl rfl ?_
      refine v_imul (n := 47) k dX5_copyRecord_46 rfl ?_
      refine v_iload_n (n := 48) k dX5_copyRecord_47 rfl rfl ?_
      refine v_iadd (n := 49) k dX5_copyRecord_48 rfl ?_
      refine v_laldN (n := 50) k 3 2 (2 * f + 1) rfl rfl (by omega) (by omega) (by omega) dX5_copyRecord_49 rfl ?_
      refine v_lastN (n := 51) k 3 2 (2 * t + 1) rfl rfl (by omega) (by omega) (by omega)  dX5_copyRecord_50 rfl ?_
      refine v_iinc (n := 54) k dX5_copyRecord_51 rfl (by decide) rfl rfl rfl ?_
      refine v_goto (t := 26) k dX5_copyRecord_54 (by decide) ?_
      refine v_iload_n (n := 27) k dX5_copyRecord_26 rfl rfl ?_
      refine v_iconst (n := 28) k dX5_copyRecord_27 rfl ?_
      refine v_icmp_ge (n := 31) (t := 57) k (⟨by omega, by omega⟩) (⟨by omega, by omega⟩) dX5_copyRecord_28 (by decide) rfl (fun c_28 => ?_) (fun c_28 => ?_)
      · refine v_iconst (n := 58) k dX5_copyRecord_57 rfl ?_
        refine v_istore_n (n := 59) k dX5_copyRecord_58 rfl (by decide) rfl rfl ?_
        refine v_iload_n (n := 60) k dX5_copyRecord_59 rfl rfl ?_
        refine v_iconst (n := 61) k dX5_copyRecord_60 rfl ?_
        refine v_icmp_ge (n := 64) (t := 90) k (⟨by omega, by omega⟩) (⟨by omega, by omega⟩) dX5_copyRecord_61 (by decide) rfl (fun c_61 => ?_) (fun c_61 => ?_)
        · exfalso; omega
        · refine v_aload_n (n := 65) k dX5_copyRecord_64 rfl rfl ?_
          refine v_get (n := 68) k ciX5 0 18 (by decide) fl_X5_50 rfl rfl dX5_copyRecord_65 rfl ?_
          refine v_iconst (n := 69) k dX5_copyRecord_68 rfl ?_
          refine v_iload_n (n := 70) k dX5_copyRecord_69 rfl rfl ?_
          refine v_imul (n := 71) k dX5_copyRecord_70 rfl ?_
          refine v_iload_n (n := 72) k dX5_copyRecord_71 rfl rfl ?_
          refine v_iadd (n := 73) k dX5_copyRecord_72 rfl ?_
          refine v_aload_n (n := 74) k dX5_copyRecord_73 rfl rfl ?_
          refine v_get (n := 77) k ciX5 0 18 (by decide) fl_X5_50 rfl rfl dX5_copyRecord_74 rfl ?_
          refine v_iconst (n := 78) k dX5_copyRecord_77 rfl ?_
          refine v_iload_n (n := 79) k dX5_copyRecord_78 rfl rfl ?_
          refine v_imul (n := 80) k dX5_copyRecord_79 rfl ?_
          refine v_iload_n (n := 81) k dX5_copyRecord_80 rfl rfl ?_
          refine v_iadd (n := 82) k dX5_copyRecord_81 rfl ?_
          refine v_laldN (n := 83) k 4 2 (4 * f + 0) rfl rfl (by omega) (by omega) (by omega) dX5_copyRecord_82 rfl ?_
          refine v_lastN (n := 84) k 4 2 (4 * t + 0) rfl rfl (by omega) (by omega) (by omega)  dX5_copyRecord_83 rfl ?_
          refine v_iinc (n := 87) k dX5_copyRecord_84 rfl (by decide) rfl rfl rfl ?_
          refine v_goto (t := 59) k dX5_copyRecord_87 (by decide) ?_
          refine v_iload_n (n := 60) k dX5_copyRecord_59 rfl rfl ?_
          refine v_iconst (n := 61) k dX5_copyRecord_60 rfl ?_
          refine v_icmp_ge (n := 64) (t := 90) k (⟨by omega, by omega⟩) (⟨by omega, by omega⟩) dX5_copyRecord_61 (by decide) rfl (fun c_61 => ?_) (fun c_61 => ?_)
          · exfalso; omega
          · refine v_aload_n (n := 65) k dX5_copyRecord_64 rfl rfl ?_
            refine v_get (n := 68) k ciX5 0 18 (by decide) fl_X5_50 rfl rfl dX5_copyRecord_65 rfl ?_
            refine v_iconst (n := 69) k dX5_copyRecord_68 rfl ?_
            refine v_iload_n (n := 70) k dX5_copyRecord_69 rfl rfl ?_
            refine v_imul (n := 71) k dX5_copyRecord_70 rfl ?_
            refine v_iload_n (n := 72) k dX5_copyRecord_71 rfl rfl ?_
            refine v_iadd (n := 73) k dX5_copyRecord_72 rfl ?_
            refine v_aload_n (n := 74) k dX5_copyRecord_73 rfl rfl ?_
            refine v_get (n := 77) k ciX5 0 18 (by decide) fl_X5_50 rfl rfl dX5_copyRecord_74 rfl ?_
            refine v_iconst (n := 78) k dX5_copyRecord_77 rfl ?_
            refine v_iload_n (n := 79) k dX5_copyRecord_78 rfl rfl ?_
            refine v_imul (n := 80) k dX5_copyRecord_79 rfl ?_
            refine v_iload_n (n := 81) k dX5_copyRecord_80 rfl rfl ?_
            refine v_iadd (n := 82) k dX5_copyRecord_81 rfl ?_
            refine v_laldN (n := 83) k 4 2 (4 * f + 1) rfl rfl (by omega) (by omega) (by omega) dX5_copyRecord_82 rfl ?_
            refine v_lastN (n := 84) k 4 2 (4 * t + 1) rfl rfl (by omega) (by omega) (by omega)  dX5_copyRecord_83 rfl ?_
            refine v_iinc (n := 87) k dX5_copyRecord_84 rfl (by decide) rfl rfl rfl ?_
            refine v_goto (t := 59) k dX5_copyRecord_87 (by decide) ?_
            refine v_iload_n (n := 60) k dX5_copyRecord_59 rfl rfl ?_
            refine v_iconst (n := 61) k dX5_copyRecord_60 rfl ?_
            refine v_icmp_ge (n := 64) (t := 90) k (⟨by omega, by omega⟩) (⟨by omega, by omega⟩) dX5_copyRecord_61 (by decide) rfl (fun c_61 => ?_) (fun c_61 => ?_)
            · exfalso; omega
            · refine v_aload_n (n := 65) k dX5_copyRecord_64 rfl rfl ?_
              refine v_get (n := 68) k ciX5 0 18 (by decide) fl_X5_50 rfl rfl dX5_copyRecord_65 rfl ?_
              refine v_iconst (n := 69) k dX5_copyRecord_68 rfl ?_
              refine v_iload_n (n := 70) k dX5_copyRecord_69 rfl rfl ?_
              refine v_imul (n := 71) k dX5_copyRecord_70 rfl ?_
              refine v_iload_n (n := 72) k dX5_copyRecord_71 rfl rfl ?_
              refine v_iadd (n := 73) k dX5_copyRecord_72 rfl ?_
              refine v_aload_n (n := 74) k dX5_copyRecord_73 rfl rfl ?_
              refine v_get (n := 77) k ciX5 0 18 (by decide) fl_X5_50 rfl rfl dX5_copyRecord_74 rfl ?_
              refine v_iconst (n := 78) k dX5_copyRecord_77 rfl ?_
              refine v_iload_n (n := 79) k dX5_copyRecord_78 rfl rfl ?_
              refine v_imul (n := 80) k dX5_copyRecord_79 rfl ?_
              refine v_iload_n (n := 81) k dX5_copyRecord_80 rfl rfl ?_
              refine v_iadd (n := 82) k dX5_copyRecord_81 rfl ?_
              refine v_laldN (n := 83) k 4 2 (4 * f + 2) rfl rfl (by omega) (by omega) (by omega) dX5_copyRecord_82 rfl ?_
              refine v_lastN (n := 84) k 4 2 (4 * t + 2) rfl rfl (by omega) (by omega) (by omega)  dX5_copyRecord_83 rfl ?_
              refine v_iinc (n := 87) k dX5_copyRecord_84 rfl (by decide) rfl rfl rfl ?_
              refine v_goto (t := 59) k dX5_copyRecord_87 (by decide) ?_
              refine v_iload_n (n := 60) k dX5_copyRecord_59 rfl rfl ?_
              refine v_iconst (n := 61) k dX5_copyRecord_60 rfl ?_
              refine v_icmp_ge (n := 64) (t := 90) k (⟨by omega, by omega⟩) (⟨by omega, by omega⟩) dX5_copyRecord_61 (by decide) rfl (fun c_61 => ?_) (fun c_61 => ?_)
              · exfalso; omega
              · refine v_aload_n (n := 65) k dX5_copyRecord_64 rfl rfl ?_
                refine v_get (n := 68) k ciX5 0 18 (by decide) fl_X5_50 rfl rfl dX5_copyRecord_65 rfl ?_
                refine v_iconst (n := 69) k dX5_copyRecord_68 rfl ?_
                refine v_iload_n (n := 70) k dX5_copyRecord_69 rfl rfl ?_
                refine v_imul (n := 71) k dX5_copyRecord_70 rfl ?_
                refine v_iload_n (n := 72) k dX5_copyRecord_71 rfl rfl ?_
                refine v_iadd (n := 73) k dX5_copyRecord_72 rfl ?_
                refine v_aload_n (n := 74) k dX5_copyRecord_73 rfl rfl ?_
                refine v_get (n := 77) k ciX5 0 18 (by decide) fl_X5_50 rfl rfl dX5_copyRecord_74 rfl ?_
                refine v_iconst (n := 78) k dX5_copyRecord_77 rfl ?_
                refine v_iload_n (n := 79) k dX5_copyRecord_78 rfl rfl ?_
                refine v_imul (n := 80) k dX5_copyRecord_79 rfl ?_
                refine v_iload_n (n := 81) k dX5_copyRecord_80 rfl rfl ?_
                refine v_iadd (n := 82) k dX5_copyRecord_81 rfl ?_
                refine v_laldN (n := 83) k 4 2 (4 * f + 3) rfl rfl (by omega) (by omega) (by omega) dX5_copyRecord_82 rfl ?_
                refine v_lastN (n := 84) k 4 2 (4 * t + 3) rfl rfl (by omega) (by omega) (by omega)  dX5_copyRecord_83 rfl ?_
                refine v_iinc (n := 87) k dX5_copyRecord_84 rfl (by decide) rfl rfl rfl ?_
                refine v_goto (t := 59) k dX5_copyRecord_87 (by decide) ?_
                refine v_iload_n (n := 60) k dX5_copyRecord_59 rfl rfl ?_
                refine v_iconst (n := 61) k dX5_copyRecord_60 rfl ?_
                refine v_icmp_ge (n := 64) (t := 90) k (⟨by omega, by omega⟩) (⟨by omega, by omega⟩) dX5_copyRecord_61 (by decide) rfl (fun c_61 => ?_) (fun c_61 => ?_)
                · refine v_vretU k hq ?_ rfl dX5_copyRecord_90
                  exact ⟨rfl, rfl⟩
                · exfalso; omega
      · exfalso; omega
set_option maxHeartbeats 1000000 in
set_option maxRecDepth 20000 in
theorem lp_X5_drop {D : va_G} {cI cB cJ cZ : ClassId} {x : Kx} {hm : Nat} {r : Nat → Nat} {th : Int} {pg lg : Nat} {wt al dn : Int} {dp dm tp an ch : Nat} {Mn : Nat → Nat} {q : RQ} {P R : Int} {p a : Nat} (k : Kf x cX5_drop 4 yX5_drop.cls none D (TY cI cB cJ cZ) ({ frames := 1, cells := 0, slots := 0, locals := 23 })) {A : Nat → Prop} (hP : P = (p : Int)) (hR : R = (a : Int)) (hp : p < 256) (ha : a < Mn p) (hM : Mn p ≤ 84) (hk9 : Vw x 4 A D true 0 0 [oM hm r th pg lg wt al dn dp dm tp an ch, aN cI (r 6) 256 (upN Mn p (Mn p - 1)), aN cI (r 7) 23040 (dpQ q (90 * p + a) (Mn p - 1 - a)).1, aN cI (r 8) 23040 (dpQ q (90 * p + a) (Mn p - 1 - a)).2.1, aL cJ (r 9) 46080 (dpQ q (90 * p + a) (Mn p - 1 - a)).2.2.1, aL cJ (r 10) 92160 (dpQ q (90 * p + a) (Mn p - 1 - a)).2.2.2] 46 [(0, .ref hm), (1, .int (iI P)), (2, .int (iI R)), (3, .int (iI ((Mn p - 1 : Nat) : Int)))] []) : ∀ (m : Nat) (n : Nat) (I : Int), Mn p < a + n + 1 + m → a + n < Mn p → I = ((a + n : Nat) : Int) → Vw x 4 A D true 0 0 [oM hm r th pg lg wt al dn dp dm tp an ch, aN cI (r 6) 256 (upN Mn p (Mn p - 1)), aN cI (r 7) 23040 (dpQ q (90 * p + a) n).1, aN cI (r 8) 23040 (dpQ q (90 * p + a) n).2.1, aL cJ (r 9) 46080 (dpQ q (90 * p + a) n).2.2.1, aL cJ (r 10) 92160 (dpQ q (90 * p + a) n).2.2.2] 12 [(0, .ref hm), (1, .int (iI P)), (2, .int (iI R)), (3, .int (iI I))] [] := by
  intro m
  induction m with
  | zero => intro n I hm9 hn e1; omega
  | succ m ih =>
    intro n I hm9 hn e1
    have e9 : upN Mn p (Mn p - 1) p = Mn p - 1 := if_pos rfl
    refine v_iload_n (n := 13) k dX5_drop_12 rfl rfl ?_
    refine v_aload_n (n := 14) k dX5_drop_13 rfl rfl ?_
    refine v_get (n := 17) k ciX5 0 14 (by decide) fl_X5_35 rfl rfl dX5_drop_14 rfl ?_
    refine v_iload_n (n := 18) k dX5_drop_17 rfl rfl ?_
    refine v_ialdN (n := 19) k 1 0 (p) rfl rfl (by omega) (by omega) (by omega) dX5_drop_18 rfl ?_
    refine v_icmp_ge (n := 22) (t := 46) k (⟨by omega, by omega⟩) (⟨by omega, by omega⟩) dX5_drop_19 (by decide) rfl (fun c_19 => ?_) (fun c_19 => ?_)
    · have e8 : n = Mn p - 1 - a := by omega
      have e7 : I = ((Mn p - 1 : Nat) : Int) := by omega
      rw [e8, e7]
      exact hk9
    · refine v_aload_n (n := 23) k dX5_drop_22 rfl rfl ?_
      refine v_bipush (n := 25) k dX5_drop_23 (by decide) rfl ?_
      refine v_iload_n (n := 26) k dX5_drop_25 rfl rfl ?_
      refine v_imul (n := 27) k dX5_drop_26 rfl ?_
      refine v_iload_n (n := 28) k dX5_drop_27 rfl rfl ?_
      refine v_iadd (n := 29) k dX5_drop_28 rfl ?_
      refine v_iconst (n := 30) k dX5_drop_29 rfl ?_
      refine v_iadd (n := 31) k dX5_drop_30 rfl ?_
      refine v_bipush (n := 33) k dX5_drop_31 (by decide) rfl ?_
      refine v_iload_n (n := 34) k dX5_drop_33 rfl rfl ?_
      refine v_imul (n := 35) k dX5_drop_34 rfl ?_
      refine v_iload_n (n := 36) k dX5_drop_35 rfl rfl ?_
      refine v_iadd (n := 37) k dX5_drop_36 rfl ?_
      refine v_upV (n := 40) k [0, 2, 3, 4, 5] 0 (z_X5_copyRecord (f := 90 * p + a + n + 1) (t := 90 * p + a + n) (by omega) (by omega) (by omega) (by omega)) miX5_copyRecord ml_X5_150 (by decide) (by decide) rfl (by decide) rfl rfl rfl rfl (Nat.le_of_ble_eq_true rfl) ⟨Nat.zero_le _, Nat.zero_le _⟩ dX5_drop_37 rfl ?_
      rintro _ _ ⟨rfl, rfl⟩
      dsimp only [wput, List.set, Option.toList, List.nil_append, List.cons_append]
      refine v_iinc (n := 43) k dX5_drop_40 rfl (by decide) rfl rfl rfl ?_
      refine v_goto (t := 12) k dX5_drop_43 (by decide) ?_
      exact ih (n + 1) _ (by omega) (by omega) (by omega)
set_option maxHeartbeats 1000000 in
set_option maxRecDepth 20000 in
theorem z_X5_drop {D : va_G} {cI cB cJ cZ : ClassId} {hm : Nat} {r : Nat → Nat} {th : Int} {pg lg : Nat} {wt al dn : Int} {dp dm tp an ch : Nat} {Mn : Nat → Nat} {q : RQ} {P R : Int} {p a : Nat} (hP : P = (p : Int)) (hR : R = (a : Int)) (hp : p < 256) (ha : a < Mn p) (hM : Mn p ≤ 84) : ∀ l, Up l yX5_drop cX5_drop 4 none ({ frames := 1, cells := 0, slots := 0, locals := 23 }) D (TY cI cB cJ cZ) [.ref hm, .int (iI P), .int (iI R)] [oM hm r th pg lg wt al dn dp dm tp an ch, aN cI (r 6) 256 Mn, aN cI (r 7) 23040 q.1, aN cI (r 8) 23040 q.2.1, aL cJ (r 9) 46080 q.2.2.1, aL cJ (r 10) 92160 q.2.2.2] (fun v w1 => v = none ∧ w1 = [oM hm r th pg lg wt al dn dp dm tp an ch, aN cI (r 6) 256 (upN Mn p (Mn p - 1)), aN cI (r 7) 23040 (dpQ q (90 * p + a) (Mn p - 1 - a)).1, aN cI (r 8) 23040 (dpQ q (90 * p + a) (Mn p - 1 - a)).2.1, aL cJ (r 9) 46080 (dpQ q (90 * p + a) (Mn p - 1 - a)).2.2.1, aL cJ (r 10) 92160 (dpQ q (90 * p + a) (Mn p - 1 - a)).2.2.2]) := by
  intro l
  refine Up_of (by decide) (Nat.le_of_ble_eq_true rfl) (fun x k hq => ?_)
  refine v_aload_n (n := 1) k dX5_drop_0 rfl rfl ?_
  refine v_get (n := 4) k ciX5 0 14 (by decide) fl_X5_35 rfl rfl dX5_drop_1 rfl ?_
  refine v_iload_n (n := 5) k dX5_drop_4 rfl rfl ?_
  refine v_dup2 (n := 6) k rfl rfl dX5_drop_5 rfl ?_
  refine v_ialdN (n := 7) k 1 0 (p) rfl rfl (by omega) (by omega) (by omega) dX5_drop_6 rfl ?_
  refine v_iconst (n := 8) k dX5_drop_7 rfl ?_
  refine v_isub (n := 9) k dX5_drop_8 rfl ?_
  refine v_iastN (n := 10) k 1 0 (p) rfl rfl (by omega) (by omega) (by omega) (Mn p - 1) (by omega) dX5_drop_9 rfl ?_
  refine v_iload_n (n := 11) k dX5_drop_10 rfl rfl ?_
  refine v_istore_n (n := 12) k dX5_drop_11 rfl (by decide) rfl rfl ?_
  refine lp_X5_drop k hP hR hp ha hM ?_ (Mn p + 1) 0 _ (by omega) (by omega) (by omega)
  refine v_vretU k hq ?_ rfl dX5_drop_46
  exact ⟨rfl, rfl⟩
def frP (Ib : Nat → Bool) (Dr : Nat → Nat) (dm lg a p : Nat) : Bool := decide (a ≤ p) && (decide (lg + 2 ≤ p) && (!Ib p && !dirM Dr dm p))
def frM (Ib : Nat → Bool) (Dr : Nat → Nat) (dm pg lg a : Nat) : Option Nat := (List.range pg).find? (frP Ib Dr dm lg a)
set_option maxHeartbeats 1000000 in
set_option maxRecDepth 20000 in
theorem lp_X5_free {D : va_G} {cI cB cJ cZ : ClassId} {x : Kx} {hm : Nat} {r : Nat → Nat} {th : Int} {pg lg : Nat} {wt al dn : Int} {dp dm tp an ch : Nat} {Dr : Nat → Nat} {Ib : Nat → Bool} {P : Int} {a : Nat} (k : Kf x cX5_free 3 yX5_free.cls (some .int) D (TY cI cB cJ cZ) ({ frames := 1, cells := 0, slots := 0, locals := 22 })) (hq : isR x (fun v => v = some (.int (iI (fdI (frM Ib Dr dm pg lg a)))))) (hP : P = (a : Int)) (ha : a ≤ 1000) (hg : pg ≤ 255) (hlg : lg ≤ 100) (hdm : dm ≤ 256) (hD : ∀ j, Dr j < 256) : ∀ (m : Nat) (i : Nat) (I : Int), 1000 < i + m → i ≤ 1000 → I = (i : Int) → (a ≤ i) → (∀ r, r < i → frP Ib Dr dm lg a r = false) → Vw x 3 (fun _ => True) D false 0 0 [oM hm r th pg lg wt al dn dp dm tp an ch, aZ cZ (r 4) 256 Ib, aN cI (r 1) 256 Dr] 2 [(0, .ref hm), (1, .int (iI P)), (2, .int (iI I))] [] := by
  intro m
  induction m with
  | zero => intro i I hm9 hi e1 hai e3; omega
  | succ m ih =>
    intro i I hm9 hi e1 hai e3
    refine v_iload_n (n := 3) k dX5_free_2 rfl rfl ?_
    refine v_aload_n (n := 4) k dX5_free_3 rfl rfl ?_
    refine v_get (n := 7) k ciX5 0 2 (by decide) fl_X5_69 rfl rfl dX5_free_4 rfl ?_
    refine v_icmp_ge (n := 10) (t := 45) k (⟨by omega, by omega⟩) (⟨by omega, by omega⟩) dX5_free_7 (by decide) rfl (fun c_7 => ?_) (fun c_7 => ?_)
    · refine v_iconst (n := 46) k dX5_free_45 rfl ?_
      refine v_iretR k hq ?_ dX5_free_46
      rw [show frM Ib Dr dm pg lg a = none from find_range_n (fun r hr => e3 r (by omega))]; rfl
    · refine v_iload_n (n := 11) k dX5_free_10 rfl rfl ?_
      refine v_aload_n (n := 12) k dX5_free_11 rfl rfl ?_
      refine v_get (n := 15) k ciX5 0 3 (by decide) fl_X5_72 rfl rfl dX5_free_12 rfl ?_
      refine v_iconst (n := 16) k dX5_free_15 rfl ?_
      refine v_iadd (n := 17) k dX5_free_16 rfl ?_
      refine v_icmp_lt (n := 20) (t := 39) k (⟨by omega, by omega⟩) (⟨by omega, by omega⟩) dX5_free_17 (by decide) rfl (fun c_17 => ?_) (fun c_17 => ?_)
      · refine v_iinc (n := 42) k dX5_free_39 rfl (by decide) rfl rfl rfl ?_
        refine v_goto (t := 2) k dX5_free_42 (by decide) ?_
        exact ih (i + 1) _ (by omega) (by omega) (by omega) (by omega) (fun r hr => by
          rcases Nat.lt_or_ge r i with q | q
          · exact e3 r q
          · have : r = i := by omega
            rw [this]
            unfold frP
            rw [decide_eq_false (show ¬ lg + 2 ≤ i by omega)]; simp)
      · refine v_aload_n (n := 21) k dX5_free_20 rfl rfl ?_
        refine v_get (n := 24) k ciX5 0 12 (by decide) fl_X5_28 rfl rfl dX5_free_21 rfl ?_
        refine v_iload_n (n := 25) k dX5_free_24 rfl rfl ?_
        refine v_zaldN (n := 26) k 1 3 (i) rfl rfl (by omega) (by omega) (by omega) dX5_free_25 rfl ?_
        refine v_if_ne (n := 29) (t := 39) k (bI_in _) dX5_free_26 (by decide) rfl (fun c_26 => ?_) (fun c_26 => ?_)
        · refine v_iinc (n := 42) k dX5_free_39 rfl (by decide) rfl rfl rfl ?_
          refine v_goto (t := 2) k dX5_free_42 (by decide) ?_
          exact ih (i + 1) _ (by omega) (by omega) (by omega) (by omega) (fun r hr => by
            rcases Nat.lt_or_ge r i with q | q
            · exact e3 r q
            · have : r = i := by omega
              rw [this]
              unfold frP
              have h9 : Ib i = true := by
                cases h9 : Ib i with
                | true => rfl
                | false => exact absurd (bI_f h9) c_26
              rw [h9]; simp)
        · refine v_aload_n (n := 30) k dX5_free_29 rfl rfl ?_
          refine v_iload_n (n := 31) k dX5_free_30 rfl rfl ?_
          refine v_rdVi (n := 34) k [0, 2] 0 (z_X5_isDirectory (p := i) e1 (by omega) hdm hD) miX5_isDirectory ml_X5_101 (by decide) (by decide) rfl (by decide) rfl rfl rfl rfl (Nat.le_of_ble_eq_true rfl) ⟨Nat.zero_le _, Nat.zero_le _⟩ dX5_free_31 rfl ?_
          refine v_if_ne (n := 37) (t := 39) k (bI_in _) dX5_free_34 (by decide) rfl (fun c_34 => ?_) (fun c_34 => ?_)
          · refine v_iinc (n := 42) k dX5_free_39 rfl (by decide) rfl rfl rfl ?_
            refine v_goto (t := 2) k dX5_free_42 (by decide) ?_
            exact ih (i + 1) _ (by omega) (by omega) (by omega) (by omega) (fun r hr => by
              rcases Nat.lt_or_ge r i with q | q
              · exact e3 r q
              · have : r = i := by omega
                rw [this]
                unfold frP
                have h9 : dirM Dr dm i = true := by
                  cases h9 : dirM Dr dm i with
                  | true => rfl
                  | false => exact absurd (bI_f h9) c_34
                rw [h9]; simp)
          · refine v_iload_n (n := 38) k dX5_free_37 rfl rfl ?_
            refine v_iretR k hq ?_ dX5_free_38
            have h8 : frP Ib Dr dm lg a i = true := by
              have h1 : Ib i = false := by
                cases h9 : Ib i with
                | false => rfl
                | true => rw [bI_t h9] at c_26; exact absurd c_26 (by decide)
              have h2 : dirM Dr dm i = false := by
                cases h9 : dirM Dr dm i with
                | false => rfl
                | true => rw [bI_t h9] at c_34; exact absurd c_34 (by decide)
              unfold frP
              rw [h1, h2, decide_eq_true hai, decide_eq_true (show lg + 2 ≤ i by omega)]
              rfl
            rw [show frM Ib Dr dm pg lg a = some i from find_range (by omega) h8 e3, e1]; rfl
set_option maxHeartbeats 1000000 in
set_option maxRecDepth 20000 in
theorem z_X5_free {D : va_G} {cI cB cJ cZ : ClassId} {hm : Nat} {r : Nat → Nat} {th : Int} {pg lg : Nat} {wt al dn : Int} {dp dm tp an ch : Nat} {Dr : Nat → Nat} {Ib : Nat → Bool} {P : Int} {a : Nat} (hP : P = (a : Int)) (ha : a ≤ 1000) (hg : pg ≤ 255) (hlg : lg ≤ 100) (hdm : dm ≤ 256) (hD : ∀ j, Dr j < 256) : ∀ l, Rd l yX5_free cX5_free 3 (some .int) ({ frames := 1, cells := 0, slots := 0, locals := 22 }) D (TY cI cB cJ cZ) [.ref hm, .int (iI P)] [oM hm r th pg lg wt al dn dp dm tp an ch, aZ cZ (r 4) 256 Ib, aN cI (r 1) 256 Dr] (fun v => v = some (.int (iI (fdI (frM Ib Dr dm pg lg a))))) := by
  intro l
  refine Rd_of (by decide) (Nat.le_of_ble_eq_true rfl) (fun x k hq => ?_)
  refine v_iload_n (n := 1) k dX5_free_0 rfl rfl ?_
  refine v_istore_n (n := 2) k dX5_free_1 rfl (by decide) rfl rfl ?_
  exact lp_X5_free k hq hP ha hg hlg hdm hD 1001 a _ (by omega) (by omega) hP (Nat.le_refl a) (fun r hr => by unfold frP; rw [decide_eq_false (show ¬ a ≤ r by omega)]; rfl)
theorem cpN_0 (f g : Nat → Nat) (s d : Nat) : cpN f g s d 0 = g := by
  funext k
  unfold cpN
  rw [if_neg (by omega)]
theorem cpN_s (f g : Nat → Nat) (d i : Nat) : upN (cpN f g 0 d i) (d + i) (f i) = cpN f g 0 d (i + 1) := by
  funext k
  rw [upN_at]
  unfold cpN
  by_cases e : k = d + i
  · rw [if_pos e, if_pos (by omega), show 0 + (k - d) = i by omega]
  · rw [if_neg e]
    by_cases e2 : d ≤ k ∧ k < d + i
    · rw [if_pos e2, if_pos (by omega)]
    · rw [if_neg e2, if_neg (by omega)]
theorem AGP.wr {pg : Nat} {Cm C f : Nat → Nat} (h : AGP pg Cm C) (p : Nat) (hf : ∀ j, j < 256 → f j < 256) : AGP pg (wrp Cm p f) (wrp C p f) := by
  refine ⟨wrp_lt h.1 hf, fun j hj => ?_⟩
  unfold wrp cpN
  split
  · rfl
  · exact h.2 j hj
set_option maxHeartbeats 1000000 in
set_option maxRecDepth 20000 in
theorem lp_X5_writes {D : va_G} {cI cB cJ cZ : ClassId} {x : Kx} {hm : Nat} {r : Nat → Nat} {th : Int} {pg lg : Nat} {wt al dn : Int} {dp dm tp an ch : Nat} {Cm : Nat → Nat} {Ou : Nat → Nat} {P : Int} {p : Nat} (k : Kf x cX5_writes 3 yX5_writes.cls (some .boolean) D (TY cI cB cJ cZ) ({ frames := 0, cells := 0, slots := 0, locals := 0 })) {A : Nat → Prop} (hP : P = (p : Int)) (hp : p < 256) (hO : ∀ j, j < 256 → Ou j < 256) (hk9 : Vw x 3 A D true 0 0 [oM hm r th pg lg wt al dn dp dm tp an ch, aB cB (r 0) 65536 (wrp Cm p Ou), aN cI (r 13) 256 Ou] 48 [(0, .ref hm), (1, .int (iI P)), (2, .int (iI 256))] []) : ∀ (m : Nat) (i : Nat) (I : Int), 256 < i + m → i ≤ 256 → I = (i : Int) → Vw x 3 A D true 0 0 [oM hm r th pg lg wt al dn dp dm tp an ch, aB cB (r 0) 65536 (cpN Ou Cm 0 (p * 256) i), aN cI (r 13) 256 Ou] 16 [(0, .ref hm), (1, .int (iI P)), (2, .int (iI I))] [] := by
  intro m
  induction m with
  | zero => intro i I hm9 hi e1; omega
  | succ m ih =>
    intro i I hm9 hi e1
    refine v_iload_n (n := 17) k dX5_writes_16 rfl rfl ?_
    refine v_sipush (n := 20) k dX5_writes_17 (by decide) rfl ?_
    refine v_icmp_ge (n := 23) (t := 48) k (⟨by omega, by omega⟩) (⟨by omega, by omega⟩) dX5_writes_20 (by decide) rfl (fun c_20 => ?_) (fun c_20 => ?_)
    · have e8 : i = 256 := by omega
      rw [e8, show I = 256 by omega]
      exact hk9
    · refine v_aload_n (n := 24) k dX5_writes_23 rfl rfl ?_
      refine v_get (n := 27) k ciX5 0 1 (by decide) fl_X5_14 rfl rfl dX5_writes_24 rfl ?_
      refine v_sipush (n := 30) k dX5_writes_27 (by decide) rfl ?_
      refine v_iload_n (n := 31) k dX5_writes_30 rfl rfl ?_
      refine v_imul (n := 32) k dX5_writes_31 rfl ?_
      refine v_iload_n (n := 33) k dX5_writes_32 rfl rfl ?_
      refine v_iadd (n := 34) k dX5_writes_33 rfl ?_
      refine v_aload_n (n := 35) k dX5_writes_34 rfl rfl ?_
      refine v_get (n := 38) k ciX5 0 23 (by decide) fl_X5_59 rfl rfl dX5_writes_35 rfl ?_
      refine v_iload_n (n := 39) k dX5_writes_38 rfl rfl ?_
      refine v_ialdN (n := 40) k 2 0 (i) rfl rfl (by omega) (by omega) (by omega) dX5_writes_39 rfl ?_
      refine v_i2b (n := 41) k (sb (Ou i)) (sb_c _ (hO i (by omega))) dX5_writes_40 rfl ?_
      refine v_bastN (n := 42) k 1 1 (p * 256 + i) rfl rfl (by omega) (by omega) (by omega) (Ou i) (rfl) (hO i (by omega)) dX5_writes_41 rfl ?_
      rw [cpN_s]
      refine v_iinc (n := 45) k dX5_writes_42 rfl (by decide) rfl rfl rfl ?_
      refine v_goto (t := 16) k dX5_writes_45 (by decide) ?_
      exact ih (i + 1) _ (by omega) (by omega) (by omega)
set_option maxHeartbeats 1000000 in
set_option maxRecDepth 20000 in
theorem z_X5_writes {D : va_G} {cI cB cJ cZ : ClassId} {hm : Nat} {r : Nat → Nat} {th : Int} {pg lg : Nat} {wt al dn : Int} {dp dm tp an ch : Nat} {Cm : Nat → Nat} {Ou : Nat → Nat} {P : Int} {p : Nat} {C : Nat → Nat} (hP : P = (p : Int)) (hp : p < 256) (hO : ∀ j, j < 256 → Ou j < 256) (hal : in32 al) (hA : AGP pg Cm C) : ∀ l, Up l yX5_writes cX5_writes 3 (some .boolean) ({ frames := 0, cells := 0, slots := 0, locals := 0 }) D (TY cI cB cJ cZ) [.ref hm, .int (iI P)] [oM hm r th pg lg wt al dn dp dm tp an ch, aB cB (r 0) 65536 Cm, aN cI (r 13) 256 Ou] (fun v w1 => ∃ (a9 : DA) (b9 : Bool) (Cm9 : Nat → Nat), sW (C, wt, al, dn) p Ou = (b9, a9) ∧ v = some (.int (iI (bI b9))) ∧ AGP pg Cm9 a9.1 ∧ w1 = [oM hm r th pg lg (a9).2.1 (a9).2.2.1 (a9).2.2.2 dp dm tp an ch, aB cB (r 0) 65536 Cm9, aN cI (r 13) 256 Ou]) := by
  intro l
  refine Up_of (by decide) (Nat.le_of_ble_eq_true rfl) (fun x k hq => ?_)
  refine v_aload_n (n := 1) k dX5_writes_0 rfl rfl ?_
  refine v_get (n := 4) k ciX5 0 5 (by decide) fl_X5_78 rfl rfl dX5_writes_1 rfl ?_
  refine v_if_ne (n := 7) (t := 14) k (hal) dX5_writes_4 (by decide) rfl (fun c_4 => ?_) (fun c_4 => ?_)
  · refine v_iconst (n := 15) k dX5_writes_14 rfl ?_
    refine v_istore_n (n := 16) k dX5_writes_15 rfl (by decide) rfl rfl ?_
    have e0 := cpN_0 Ou Cm 0 (p * 256)
    refine v_ws (ws' := [oM hm r th pg lg wt al dn dp dm tp an ch, aB cB (r 0) 65536 (cpN Ou Cm 0 (p * 256) 0), aN cI (r 13) 256 Ou]) (by rw [e0]) ?_
    refine lp_X5_writes k hP hp hO ?_ 257 0 _ (by omega) (by omega) rfl
    refine v_aload_n (n := 49) k dX5_writes_48 rfl rfl ?_
    refine v_dup (n := 50) k rfl dX5_writes_49 rfl ?_
    refine v_get (n := 53) k ciX5 0 4 (by decide) fl_X5_75 rfl rfl dX5_writes_50 rfl ?_
    refine v_iconst (n := 54) k dX5_writes_53 rfl ?_
    refine v_iadd (n := 55) k dX5_writes_54 rfl ?_
    refine v_put (n := 58) k ciX5 0 4 (by decide) fl_X5_75 rfl rfl (rfl) (rfl) (Nat.le_of_ble_eq_true rfl) dX5_writes_55 rfl ?_
    refine v_aload_n (n := 59) k dX5_writes_58 rfl rfl ?_
    refine v_get (n := 62) k ciX5 0 5 (by decide) fl_X5_78 rfl rfl dX5_writes_59 rfl ?_
    refine v_if_le (n := 65) (t := 75) k (hal) dX5_writes_62 (by decide) rfl (fun c_62 => ?_) (fun c_62 => ?_)
    · refine v_iconst (n := 76) k dX5_writes_75 rfl ?_
      refine v_zretU k (by decide) hq ?_ rfl dX5_writes_76
      refine ⟨(wrp C p Ou, wt + 1, alW al, dn), true, wrp Cm p Ou, ?_, rfl, hA.wr p hO, ?_⟩
      · unfold sW
        rw [if_neg c_4]
      · rw [show alW al = al from if_neg (by omega)]; rfl
    · refine v_aload_n (n := 66) k dX5_writes_65 rfl rfl ?_
      refine v_dup (n := 67) k rfl dX5_writes_66 rfl ?_
      refine v_get (n := 70) k ciX5 0 5 (by decide) fl_X5_78 rfl rfl dX5_writes_67 rfl ?_
      refine v_iconst (n := 71) k dX5_writes_70 rfl ?_
      refine v_isub (n := 72) k dX5_writes_71 rfl ?_
      refine v_put (n := 75) k ciX5 0 5 (by decide) fl_X5_78 rfl rfl (rfl) (rfl) (Nat.le_of_ble_eq_true rfl) dX5_writes_72 rfl ?_
      refine v_iconst (n := 76) k dX5_writes_75 rfl ?_
      refine v_zretU k (by decide) hq ?_ rfl dX5_writes_76
      refine ⟨(wrp C p Ou, wt + 1, alW al, dn), true, wrp Cm p Ou, ?_, rfl, hA.wr p hO, ?_⟩
      · unfold sW
        rw [if_neg c_4]
      · rw [show alW al = al - 1 from if_pos (by omega)]; rfl
  · refine v_aload_n (n := 8) k dX5_writes_7 rfl rfl ?_
    refine v_iconst (n := 9) k dX5_writes_8 rfl ?_
    refine v_put (n := 12) k ciX5 0 6 (by decide) fl_X5_81 rfl rfl (rfl) (rfl) (Nat.le_of_ble_eq_true rfl) dX5_writes_9 rfl ?_
    refine v_iconst (n := 13) k dX5_writes_12 rfl ?_
    refine v_zretU k (by decide) hq ?_ rfl dX5_writes_13
    refine ⟨(C, wt, al, 1), false, Cm, ?_, rfl, hA, rfl⟩
    unfold sW
    rw [if_pos c_4]
def jo (n : Nat) (g : Nat → Nat) : Nat → Nat := fun j => if j = 0 then n else if j ≤ n then g (j - 1) else 0
def lo (f g : Nat → Nat) (n : Nat) : Nat → Nat := fun j => if j < n then f j else g j
theorem lo_0 (f g : Nat → Nat) : lo f g 0 = g := by
  funext j
  unfold lo
  rw [if_neg (by omega)]
theorem lo_s {f g : Nat → Nat} {i b : Nat} (h : f i = b) : upN (lo f g i) i b = lo f g (i + 1) := by
  funext j
  rw [upN_at]
  unfold lo
  by_cases e : j = i
  · rw [if_pos e, if_pos (by omega), e, h]
  · rw [if_neg e]
    by_cases e2 : j < i
    · rw [if_pos e2, if_pos (by omega)]
    · rw [if_neg e2, if_neg (by omega)]
set_option maxHeartbeats 1000000 in
set_option maxRecDepth 20000 in
theorem lp_X5_journal {D : va_G} {cI cB cJ cZ : ClassId} {x : Kx} {hm : Nat} {r : Nat → Nat} {th : Int} {pg lg : Nat} {wt al dn : Int} {dp dm tp an ch : Nat} {Ou : Nat → Nat} {Cg : Nat → Nat} {N : Int} {n : Nat} (k : Kf x cX5_journal 3 yX5_journal.cls none D (TY cI cB cJ cZ) ({ frames := 0, cells := 0, slots := 0, locals := 0 })) {A : Nat → Prop} (hN : N = (n : Int)) (hn : n ≤ 255) (hC : ∀ j, Cg j < 256) (hk9 : Vw x 3 A D true 0 0 [oM hm r th pg lg wt al dn dp dm tp an ch, aN cI (r 13) 256 (jo n Cg), aN cI (r 14) 256 Cg] 46 [(0, .ref hm), (1, .int (iI N)), (2, .int (iI 256))] []) : ∀ (m : Nat) (i : Nat) (I : Int), 256 < i + m → i ≤ 256 → I = (i : Int) → Vw x 3 A D true 0 0 [oM hm r th pg lg wt al dn dp dm tp an ch, aN cI (r 13) 256 (lo (jo n Cg) Ou i), aN cI (r 14) 256 Cg] 2 [(0, .ref hm), (1, .int (iI N)), (2, .int (iI I))] [] := by
  intro m
  induction m with
  | zero => intro i I hm9 hi e1; omega
  | succ m ih =>
    intro i I hm9 hi e1
    have hc9 := hC (i - 1)
    refine v_iload_n (n := 3) k dX5_journal_2 rfl rfl ?_
    refine v_sipush (n := 6) k dX5_journal_3 (by decide) rfl ?_
    refine v_icmp_ge (n := 9) (t := 46) k (⟨by omega, by omega⟩) (⟨by omega, by omega⟩) dX5_journal_6 (by decide) rfl (fun c_6 => ?_) (fun c_6 => ?_)
    · have e8 : i = 256 := by omega
      rw [e8, show I = 256 by omega]
      refine v_cg 1 (fun j => iI ((jo n Cg j : Nat) : Int)) rfl (fun j hj => by unfold lo; rw [if_pos hj]) ?_
      exact hk9
    · refine v_aload_n (n := 10) k dX5_journal_9 rfl rfl ?_
      refine v_get (n := 13) k ciX5 0 23 (by decide) fl_X5_59 rfl rfl dX5_journal_10 rfl ?_
      refine v_iload_n (n := 14) k dX5_journal_13 rfl rfl ?_
      refine v_iload_n (n := 15) k dX5_journal_14 rfl rfl ?_
      refine v_if_ne (n := 18) (t := 22) k (⟨by omega, by omega⟩) dX5_journal_15 (by decide) rfl (fun c_15 => ?_) (fun c_15 => ?_)
      · refine v_iload_n (n := 23) k dX5_journal_22 rfl rfl ?_
        refine v_iload_n (n := 24) k dX5_journal_23 rfl rfl ?_
        refine v_icmp_gt (n := 27) (t := 38) k (⟨by omega, by omega⟩) (⟨by omega, by omega⟩) dX5_journal_24 (by decide) rfl (fun c_24 => ?_) (fun c_24 => ?_)
        · refine v_iconst (n := 39) k dX5_journal_38 rfl ?_
          refine v_iastN (n := 40) k 1 0 (i) rfl rfl (by omega) (by omega) (by omega) (0) (by omega) dX5_journal_39 rfl ?_
          rw [lo_s (show jo n Cg i = _ by unfold jo; rw [if_neg (by omega), if_neg (by omega)])]
          refine v_iinc (n := 43) k dX5_journal_40 rfl (by decide) rfl rfl rfl ?_
          refine v_goto (t := 2) k dX5_journal_43 (by decide) ?_
          exact ih (i + 1) _ (by omega) (by omega) (by omega)
        · refine v_aload_n (n := 28) k dX5_journal_27 rfl rfl ?_
          refine v_get (n := 31) k ciX5 0 24 (by decide) fl_X5_62 rfl rfl dX5_journal_28 rfl ?_
          refine v_iload_n (n := 32) k dX5_journal_31 rfl rfl ?_
          refine v_iconst (n := 33) k dX5_journal_32 rfl ?_
          refine v_isub (n := 34) k dX5_journal_33 rfl ?_
          refine v_ialdN (n := 35) k 2 0 (i - 1) rfl rfl (by omega) (by omega) (by omega) dX5_journal_34 rfl ?_
          refine v_goto (t := 39) k dX5_journal_35 (by decide) ?_
          refine v_iastN (n := 40) k 1 0 (i) rfl rfl (by omega) (by omega) (by omega) (Cg (i - 1)) (by omega) dX5_journal_39 rfl ?_
          rw [lo_s (show jo n Cg i = _ by unfold jo; rw [if_neg (by omega), if_pos (by omega)])]
          refine v_iinc (n := 43) k dX5_journal_40 rfl (by decide) rfl rfl rfl ?_
          refine v_goto (t := 2) k dX5_journal_43 (by decide) ?_
          exact ih (i + 1) _ (by omega) (by omega) (by omega)
      · refine v_iload_n (n := 19) k dX5_journal_18 rfl rfl ?_
        refine v_goto (t := 39) k dX5_journal_19 (by decide) ?_
        refine v_iastN (n := 40) k 1 0 (i) rfl rfl (by omega) (by omega) (by omega) (n) (by omega) dX5_journal_39 rfl ?_
        rw [lo_s (show jo n Cg i = _ by unfold jo; rw [if_pos (by omega)])]
        refine v_iinc (n := 43) k dX5_journal_40 rfl (by decide) rfl rfl rfl ?_
        refine v_goto (t := 2) k dX5_journal_43 (by decide) ?_
        exact ih (i + 1) _ (by omega) (by omega) (by omega)
set_option maxHeartbeats 1000000 in
set_option maxRecDepth 20000 in
theorem z_X5_journal {D : va_G} {cI cB cJ cZ : ClassId} {hm : Nat} {r : Nat → Nat} {th : Int} {pg lg : Nat} {wt al dn : Int} {dp dm tp an ch : Nat} {Ou : Nat → Nat} {Cg : Nat → Nat} {N : Int} {n : Nat} (hN : N = (n : Int)) (hn : n ≤ 255) (hC : ∀ j, Cg j < 256) : ∀ l, Up l yX5_journal cX5_journal 3 none ({ frames := 0, cells := 0, slots := 0, locals := 0 }) D (TY cI cB cJ cZ) [.ref hm, .int (iI N)] [oM hm r th pg lg wt al dn dp dm tp an ch, aN cI (r 13) 256 Ou, aN cI (r 14) 256 Cg] (fun v w1 => v = none ∧ w1 = [oM hm r th pg lg wt al dn dp dm tp an ch, aN cI (r 13) 256 (jo n Cg), aN cI (r 14) 256 Cg]) := by
  intro l
  refine Up_of (by decide) (Nat.le_of_ble_eq_true rfl) (fun x k hq => ?_)
  refine v_iconst (n := 1) k dX5_journal_0 rfl ?_
  refine v_istore_n (n := 2) k dX5_journal_1 rfl (by decide) rfl rfl ?_
  have e0 := lo_0 (jo n Cg) Ou
  refine v_ws (ws' := [oM hm r th pg lg wt al dn dp dm tp an ch, aN cI (r 13) 256 (lo (jo n Cg) Ou 0), aN cI (r 14) 256 Cg]) (by rw [e0]) ?_
  refine lp_X5_journal k hN hn hC ?_ 257 0 _ (by omega) (by omega) rfl
  refine v_vretU k hq ?_ rfl dX5_journal_46
  exact ⟨rfl, rfl⟩
