def hdM (dp dm : Nat) (Dr : Nat → Nat) : Nat → Nat := fun j => if j = 0 then dp else if j ≤ dm then Dr (j - 1) else 0
def dpM (dp : Nat) (En : Nat → Nat) (k : Nat) : Nat → Nat := fun j => if j < 256 ∧ k * 256 + j < 2 ^ dp then En (k * 256 + j) else 0
def rcs (q : RQ) (p n : Nat) : List (List Nat) := (List.range n).map (fun r => rcB q (90 * p + r))
def bkM (Bd Mn : Nat → Nat) (q : RQ) (p : Nat) : Nat → Nat := bpg (Bd p) (rcs q p (Mn p))
def dfM (Dr : Nat → Nat) (dm p : Nat) : Option Nat := (List.range dm).find? (fun k => Dr k == p)
def rnM (dp dm : Nat) (Dr En Bd Mn : Nat → Nat) (q : RQ) (p : Nat) : Nat → Nat := if p = 0 then hdM dp dm Dr else match dfM Dr dm p with
  | some k => dpM dp En k
  | none => bkM Bd Mn q p
theorem rnM_0 (dp dm : Nat) (Dr En Bd Mn : Nat → Nat) (q : RQ) : rnM dp dm Dr En Bd Mn q 0 = hdM dp dm Dr := if_pos rfl
theorem rnM_d {dp dm : Nat} {Dr En Bd Mn : Nat → Nat} {q : RQ} {p k : Nat} (h0 : p ≠ 0) (h : dfM Dr dm p = some k) : rnM dp dm Dr En Bd Mn q p = dpM dp En k := by
  unfold rnM
  rw [if_neg h0, h]
theorem rnM_b {dp dm : Nat} {Dr En Bd Mn : Nat → Nat} {q : RQ} {p : Nat} (h0 : p ≠ 0) (h : dfM Dr dm p = none) : rnM dp dm Dr En Bd Mn q p = bkM Bd Mn q p := by
  unfold rnM
  rw [if_neg h0, h]
theorem rcs_s (q : RQ) (p n : Nat) : rcs q p (n + 1) = rcs q p n ++ [rcB q (90 * p + n)] := range_snoc _ n
theorem rcs_len (q : RQ) (p n : Nat) : (rcs q p n).length = n := by simp [rcs]
theorem rcs_fl (q : RQ) (p : Nat) : ∀ n, (rcs q p n).flatten.length = btM q p n := by
  intro n
  induction n with
  | zero => rfl
  | succ n ih =>
    rw [rcs_s, List.flatten_append, List.length_append, ih]
    show _ + [rcB q (90 * p + n)].flatten.length = btM q p n + (2 + q.1 (90 * p + n) + q.2.1 (90 * p + n))
    rw [List.flatten_cons, List.flatten_nil, List.append_nil, rcB_len]
theorem btM_mono (q : RQ) (p : Nat) {i n : Nat} (h : i < n) : btM q p i + (2 + q.1 (90 * p + i) + q.2.1 (90 * p + i)) ≤ btM q p n := by
  induction n with
  | zero => omega
  | succ n ih =>
    rcases Nat.lt_or_ge i n with h1 | h1
    · exact Nat.le_trans (ih h1) (Nat.le_add_right _ _)
    · have : i = n := by omega
      subst this
      exact Nat.le_refl _
theorem bpi_push {d n L b i : Nat} {bs : List Nat} (hi : i = 4 + bs.length) (hb : b < 256) : upN (bpi d n L bs) i b = bpi d n L (bs ++ [b]) := by
  have := bpi_set (d := d) (n := n) (L := L) hi hb
  rw [Nat.mod_eq_of_lt hb] at this
  exact this
theorem bpi_new (d n L : Nat) : upN (upN (upN (upN (fun _ => 0) 0 d) 1 n) 2 (L / 256)) 3 (L % 256) = bpi d n L [] := by
  funext j
  simp only [upN_at, bpi]
  by_cases h0 : j = 0
  · subst h0; rfl
  by_cases h1 : j = 1
  · subst h1; rfl
  by_cases h2 : j = 2
  · subst h2; rfl
  by_cases h3 : j = 3
  · subst h3; rfl
  simp [h0, h1, h2, h3]
theorem hd_s {dp k : Nat} {Dr : Nat → Nat} : upN (hdM dp k Dr) (1 + k) (Dr k) = hdM dp (k + 1) Dr := by
  funext j
  rw [upN_at]
  unfold hdM
  by_cases e : j = 1 + k
  · rw [if_pos e, if_neg (by omega), if_pos (by omega), show j - 1 = k by omega]
  · rw [if_neg e]
    by_cases e0 : j = 0
    · rw [if_pos e0, if_pos e0]
    · rw [if_neg e0, if_neg e0]
      by_cases e2 : j ≤ k
      · rw [if_pos e2, if_pos (by omega)]
      · rw [if_neg e2, if_neg (by omega)]
theorem hd_0 {dp : Nat} {Dr : Nat → Nat} : upN (fun _ => 0) 0 dp = hdM dp 0 Dr := by
  funext j
  rw [upN_at]
  unfold hdM
  by_cases e0 : j = 0
  · rw [if_pos e0, if_pos e0]
  · rw [if_neg e0, if_neg e0, if_neg (by omega)]
def loz (f : Nat → Nat) (n : Nat) : Nat → Nat := lo f (fun _ => 0) n
theorem dp_done {dp k i : Nat} {En : Nat → Nat} (h1 : ∀ j, j < i → k * 256 + j < 2 ^ dp) (hi : i ≤ 256) (h2 : i = 256 ∨ 2 ^ dp ≤ k * 256 + i) : loz (fun j => En (k * 256 + j)) i = dpM dp En k := by
  funext j
  unfold loz lo dpM
  by_cases e : j < i
  · have := h1 j e
    rw [if_pos e, if_pos (by omega)]
  · rw [if_neg e, if_neg (by omega)]
set_option maxHeartbeats 1000000 in
set_option maxRecDepth 20000 in
theorem lp_X5_render0 {D : va_G} {cI cB cJ cZ : ClassId} {x : Kx} {hm : Nat} {r : Nat → Nat} {th : Int} {pg lg : Nat} {wt al dn : Int} {dp dm tp an ch : Nat} {Dr : Nat → Nat} {En : Nat → Nat} {Bd : Nat → Nat} {Mn : Nat → Nat} {Ou : Nat → Nat} {q : RQ} {P : Int} (k : Kf x cX5_render 7 yX5_render.cls none D (TY cI cB cJ cZ) ({ frames := 1, cells := 0, slots := 0, locals := 23 })) {A : Nat → Prop}  (hk9 : Vw x 7 A D true 0 0 [oM hm r th pg lg wt al dn dp dm tp an ch, aN cI (r 1) 256 Dr, aN cI (r 2) 65536 En, aN cI (r 5) 256 Bd, aN cI (r 6) 256 Mn, aN cI (r 7) 23040 q.1, aN cI (r 8) 23040 q.2.1, aL cJ (r 9) 46080 q.2.2.1, aL cJ (r 10) 92160 q.2.2.2, aN cI (r 13) 256 (fun _ => 0)] 22 [(0, .ref hm), (1, .int (iI P)), (2, .int (iI 256))] []) : ∀ (m : Nat) (i : Nat) (I : Int), 256 < i + m → i ≤ 256 → I = (i : Int) → Vw x 7 A D true 0 0 [oM hm r th pg lg wt al dn dp dm tp an ch, aN cI (r 1) 256 Dr, aN cI (r 2) 65536 En, aN cI (r 5) 256 Bd, aN cI (r 6) 256 Mn, aN cI (r 7) 23040 q.1, aN cI (r 8) 23040 q.2.1, aL cJ (r 9) 46080 q.2.2.1, aL cJ (r 10) 92160 q.2.2.2, aN cI (r 13) 256 (lo (fun _ => 0) Ou i)] 2 [(0, .ref hm), (1, .int (iI P)), (2, .int (iI I))] [] := by
  intro m
  induction m with
  | zero => intro i I hm9 hi e1; omega
  | succ m ih =>
    intro i I hm9 hi e1
    refine v_iload_n (n := 3) k dX5_render_2 rfl rfl ?_
    refine v_sipush (n := 6) k dX5_render_3 (by decide) rfl ?_
    refine v_icmp_ge (n := 9) (t := 22) k (⟨by omega, by omega⟩) (⟨by omega, by omega⟩) dX5_render_6 (by decide) rfl (fun c_6 => ?_) (fun c_6 => ?_)
    · have e8 : i = 256 := by omega
      rw [e8, show I = 256 by omega]
      refine v_cg 9 (fun j => iI ((0 : Nat) : Int)) rfl (fun j hj => by unfold lo; rw [if_pos hj]) ?_
      exact hk9
    · refine v_aload_n (n := 10) k dX5_render_9 rfl rfl ?_
      refine v_get (n := 13) k ciX5 0 23 (by decide) fl_X5_59 rfl rfl dX5_render_10 rfl ?_
      refine v_iload_n (n := 14) k dX5_render_13 rfl rfl ?_
      refine v_iconst (n := 15) k dX5_render_14 rfl ?_
      refine v_iastN (n := 16) k 9 0 (i) rfl rfl (by omega) (by omega) (by omega) (0) (by omega) dX5_render_15 rfl ?_
      rw [lo_s (f := fun _ => 0) rfl]
      refine v_iinc (n := 19) k dX5_render_16 rfl (by decide) rfl rfl rfl ?_
      refine v_goto (t := 2) k dX5_render_19 (by decide) ?_
      exact ih (i + 1) _ (by omega) (by omega) (by omega)
set_option maxHeartbeats 1000000 in
set_option maxRecDepth 20000 in
theorem lp_X5_render1 {D : va_G} {cI cB cJ cZ : ClassId} {x : Kx} {hm : Nat} {r : Nat → Nat} {th : Int} {pg lg : Nat} {wt al dn : Int} {dp dm tp an ch : Nat} {Dr : Nat → Nat} {En : Nat → Nat} {Bd : Nat → Nat} {Mn : Nat → Nat} {q : RQ} {P : Int} (k : Kf x cX5_render 7 yX5_render.cls none D (TY cI cB cJ cZ) ({ frames := 1, cells := 0, slots := 0, locals := 23 })) {A : Nat → Prop} (hdm : dm ≤ 255) (hD : ∀ j, Dr j < 256) (hk9 : Vw x 7 A D true 0 0 [oM hm r th pg lg wt al dn dp dm tp an ch, aN cI (r 1) 256 Dr, aN cI (r 2) 65536 En, aN cI (r 5) 256 Bd, aN cI (r 6) 256 Mn, aN cI (r 7) 23040 q.1, aN cI (r 8) 23040 q.2.1, aL cJ (r 9) 46080 q.2.2.1, aL cJ (r 10) 92160 q.2.2.2, aN cI (r 13) 256 (hdM dp dm Dr)] 66 [(0, .ref hm), (1, .int (iI P)), (2, .int (iI (dm : Int)))] []) : ∀ (m : Nat) (i : Nat) (I : Int), dm < i + m → i ≤ dm → I = (i : Int) → Vw x 7 A D true 0 0 [oM hm r th pg lg wt al dn dp dm tp an ch, aN cI (r 1) 256 Dr, aN cI (r 2) 65536 En, aN cI (r 5) 256 Bd, aN cI (r 6) 256 Mn, aN cI (r 7) 23040 q.1, aN cI (r 8) 23040 q.2.1, aL cJ (r 9) 46080 q.2.2.1, aL cJ (r 10) 92160 q.2.2.2, aN cI (r 13) 256 (hdM dp i Dr)] 38 [(0, .ref hm), (1, .int (iI P)), (2, .int (iI I))] [] := by
  intro m
  induction m with
  | zero => intro i I hm9 hi e1; omega
  | succ m ih =>
    intro i I hm9 hi e1
    have hd9 := hD i
    refine v_iload_n (n := 39) k dX5_render_38 rfl rfl ?_
    refine v_aload_n (n := 40) k dX5_render_39 rfl rfl ?_
    refine v_get (n := 43) k ciX5 0 8 (by decide) fl_X5_98 rfl rfl dX5_render_40 rfl ?_
    refine v_icmp_ge (n := 46) (t := 66) k (⟨by omega, by omega⟩) (⟨by omega, by omega⟩) dX5_render_43 (by decide) rfl (fun c_43 => ?_) (fun c_43 => ?_)
    · have e8 : i = dm := by omega
      rw [e8, show I = (dm : Int) by omega]
      exact hk9
    · refine v_aload_n (n := 47) k dX5_render_46 rfl rfl ?_
      refine v_get (n := 50) k ciX5 0 23 (by decide) fl_X5_59 rfl rfl dX5_render_47 rfl ?_
      refine v_iconst (n := 51) k dX5_render_50 rfl ?_
      refine v_iload_n (n := 52) k dX5_render_51 rfl rfl ?_
      refine v_iadd (n := 53) k dX5_render_52 rfl ?_
      refine v_aload_n (n := 54) k dX5_render_53 rfl rfl ?_
      refine v_get (n := 57) k ciX5 0 9 (by decide) fl_X5_18 rfl rfl dX5_render_54 rfl ?_
      refine v_iload_n (n := 58) k dX5_render_57 rfl rfl ?_
      refine v_ialdN (n := 59) k 1 0 (i) rfl rfl (by omega) (by omega) (by omega) dX5_render_58 rfl ?_
      refine v_iastN (n := 60) k 9 0 (1 + i) rfl rfl (by omega) (by omega) (by omega) (Dr i) (rfl) dX5_render_59 rfl ?_
      rw [hd_s]
      refine v_iinc (n := 63) k dX5_render_60 rfl (by decide) rfl rfl rfl ?_
      refine v_goto (t := 38) k dX5_render_63 (by decide) ?_
      exact ih (i + 1) _ (by omega) (by omega) (by omega)
set_option maxHeartbeats 1000000 in
set_option maxRecDepth 20000 in
theorem lp_X5_render2 {D : va_G} {cI cB cJ cZ : ClassId} {x : Kx} {hm : Nat} {r : Nat → Nat} {th : Int} {pg lg : Nat} {wt al dn : Int} {dp dm tp an ch : Nat} {Dr : Nat → Nat} {En : Nat → Nat} {Bd : Nat → Nat} {Mn : Nat → Nat} {q : RQ} {P K : Int} {kk : Nat} (k : Kf x cX5_render 7 yX5_render.cls none D (TY cI cB cJ cZ) ({ frames := 1, cells := 0, slots := 0, locals := 23 })) {A : Nat → Prop} (hdp : dp ≤ 15) (hK : K = (kk : Int)) (hkk : kk < 256) (hk9 : ∀ i : Nat, Vw x 7 A D true 0 0 [oM hm r th pg lg wt al dn dp dm tp an ch, aN cI (r 1) 256 Dr, aN cI (r 2) 65536 En, aN cI (r 5) 256 Bd, aN cI (r 6) 256 Mn, aN cI (r 7) 23040 q.1, aN cI (r 8) 23040 q.2.1, aL cJ (r 9) 46080 q.2.2.1, aL cJ (r 10) 92160 q.2.2.2, aN cI (r 13) 256 (dpM dp En kk)] 136 [(0, .ref hm), (1, .int (iI P)), (2, .int (iI K)), (3, .int (iI (i : Int)))] []) : ∀ (m : Nat) (i : Nat) (I : Int), 256 < i + m → i ≤ 256 → I = (i : Int) → (∀ j, j < i → kk * 256 + j < 2 ^ dp) → Vw x 7 A D true 0 0 [oM hm r th pg lg wt al dn dp dm tp an ch, aN cI (r 1) 256 Dr, aN cI (r 2) 65536 En, aN cI (r 5) 256 Bd, aN cI (r 6) 256 Mn, aN cI (r 7) 23040 q.1, aN cI (r 8) 23040 q.2.1, aL cJ (r 9) 46080 q.2.2.1, aL cJ (r 10) 92160 q.2.2.2, aN cI (r 13) 256 (loz (fun j => En (kk * 256 + j)) i)] 89 [(0, .ref hm), (1, .int (iI P)), (2, .int (iI K)), (3, .int (iI I))] [] := by
  intro m
  induction m with
  | zero => intro i I hm9 hi e1 e2; omega
  | succ m ih =>
    intro i I hm9 hi e1 e2
    have h15 : 2 ^ dp ≤ 2 ^ 15 := Nat.pow_le_pow_right (by decide) hdp
    have h15b : (2 : Nat) ^ 15 = 32768 := by decide
    have h16 : 0 < 2 ^ dp := Nat.pow_pos (by decide)
    refine v_iload_n (n := 90) k dX5_render_89 rfl rfl ?_
    refine v_sipush (n := 93) k dX5_render_90 (by decide) rfl ?_
    refine v_icmp_ge (n := 96) (t := 136) k (⟨by omega, by omega⟩) (⟨by omega, by omega⟩) dX5_render_93 (by decide) rfl (fun c_93 => ?_) (fun c_93 => ?_)
    · rw [dp_done e2 hi (by omega), e1]
      exact hk9 i
    · refine v_sipush (n := 99) k dX5_render_96 (by decide) rfl ?_
      refine v_iload_n (n := 100) k dX5_render_99 rfl rfl ?_
      refine v_imul (n := 101) k dX5_render_100 rfl ?_
      refine v_iload_n (n := 102) k dX5_render_101 rfl rfl ?_
      refine v_iadd (n := 103) k dX5_render_102 rfl ?_
      refine v_iconst (n := 104) k dX5_render_103 rfl ?_
      refine v_aload_n (n := 105) k dX5_render_104 rfl rfl ?_
      refine v_get (n := 108) k ciX5 0 7 (by decide) fl_X5_95 rfl rfl dX5_render_105 rfl ?_
      refine v_ishl (n := 109) k (((2 ^ dp : Nat) : Int)) (by have h9 := ax_shl (a := 1) (d := dp) rfl rfl (by omega) (by omega); rw [Nat.one_mul] at h9; exact h9) dX5_render_108 rfl ?_
      refine v_icmp_ge (n := 112) (t := 136) k (⟨by omega, by omega⟩) (⟨by omega, by omega⟩) dX5_render_109 (by decide) rfl (fun c_109 => ?_) (fun c_109 => ?_)
      · rw [dp_done e2 hi (by omega), e1]
        exact hk9 i
      · refine v_aload_n (n := 113) k dX5_render_112 rfl rfl ?_
        refine v_get (n := 116) k ciX5 0 23 (by decide) fl_X5_59 rfl rfl dX5_render_113 rfl ?_
        refine v_iload_n (n := 117) k dX5_render_116 rfl rfl ?_
        refine v_aload_n (n := 118) k dX5_render_117 rfl rfl ?_
        refine v_get (n := 121) k ciX5 0 10 (by decide) fl_X5_22 rfl rfl dX5_render_118 rfl ?_
        refine v_sipush (n := 124) k dX5_render_121 (by decide) rfl ?_
        refine v_iload_n (n := 125) k dX5_render_124 rfl rfl ?_
        refine v_imul (n := 126) k dX5_render_125 rfl ?_
        refine v_iload_n (n := 127) k dX5_render_126 rfl rfl ?_
        refine v_iadd (n := 128) k dX5_render_127 rfl ?_
        refine v_ialdN (n := 129) k 2 0 (kk * 256 + i) rfl rfl (by omega) (by omega) (by omega) dX5_render_128 rfl ?_
        refine v_iastN (n := 130) k 9 0 (i) rfl rfl (by omega) (by omega) (by omega) (En (kk * 256 + i)) (rfl) dX5_render_129 rfl ?_
        rw [show upN (loz (fun j => En (kk * 256 + j)) i) i (En (kk * 256 + i)) = loz (fun j => En (kk * 256 + j)) (i + 1) from lo_s rfl]
        refine v_iinc (n := 133) k dX5_render_130 rfl (by decide) rfl rfl rfl ?_
        refine v_goto (t := 89) k dX5_render_133 (by decide) ?_
        exact ih (i + 1) _ (by omega) (by omega) (by omega) (fun j hj => by
          rcases Nat.lt_or_ge j i with h | h
          · exact e2 j h
          · have : j = i := by omega
            rw [this]; omega)
set_option maxHeartbeats 1000000 in
set_option maxRecDepth 20000 in
theorem lp_X5_render3 {D : va_G} {cI cB cJ cZ : ClassId} {x : Kx} {hm : Nat} {r : Nat → Nat} {th : Int} {pg lg : Nat} {wt al dn : Int} {dp dm tp an ch : Nat} {Dr : Nat → Nat} {En : Nat → Nat} {Bd : Nat → Nat} {Mn : Nat → Nat} {q : RQ} {P N I4 X : Int} {d n L u : Nat} {B0 : List Nat} (k : Kf x cX5_render 7 yX5_render.cls none D (TY cI cB cJ cZ) ({ frames := 1, cells := 0, slots := 0, locals := 23 })) {A : Nat → Prop} (hX : X = (u : Int)) (hu : u < 23040) (hQ : QB q) (hB : B0.length + q.1 u ≤ 252) (hk9 : Vw x 7 A D true 0 0 [oM hm r th pg lg wt al dn dp dm tp an ch, aN cI (r 1) 256 Dr, aN cI (r 2) 65536 En, aN cI (r 5) 256 Bd, aN cI (r 6) 256 Mn, aN cI (r 7) 23040 q.1, aN cI (r 8) 23040 q.2.1, aL cJ (r 9) 46080 q.2.2.1, aL cJ (r 10) 92160 q.2.2.2, aN cI (r 13) 256 (bpi d n L (B0 ++ (List.range (q.1 u)).map (kb q u)))] 289 [(0, .ref hm), (1, .int (iI P)), (2, .int (iI N)), (3, .int (iI ((4 + B0.length + q.1 u : Nat) : Int))), (4, .int (iI I4)), (5, .int (iI X)), (6, .int (iI ((q.1 u : Nat) : Int)))] []) : ∀ (m : Nat) (i : Nat) (S I : Int), q.1 u < i + m → i ≤ q.1 u → I = (i : Int) → S = ((4 + B0.length + i : Nat) : Int) → Vw x 7 A D true 0 0 [oM hm r th pg lg wt al dn dp dm tp an ch, aN cI (r 1) 256 Dr, aN cI (r 2) 65536 En, aN cI (r 5) 256 Bd, aN cI (r 6) 256 Mn, aN cI (r 7) 23040 q.1, aN cI (r 8) 23040 q.2.1, aL cJ (r 9) 46080 q.2.2.1, aL cJ (r 10) 92160 q.2.2.2, aN cI (r 13) 256 (bpi d n L (B0 ++ (List.range i).map (kb q u)))] 254 [(0, .ref hm), (1, .int (iI P)), (2, .int (iI N)), (3, .int (iI S)), (4, .int (iI I4)), (5, .int (iI X)), (6, .int (iI I))] [] := by
  intro m
  induction m with
  | zero => intro i S I hm9 hi e1 e2; omega
  | succ m ih =>
    intro i S I hm9 hi e1 e2
    have hq9 := hQ u
    refine v_iload (n := 256) k dX5_render_254 rfl rfl ?_
    refine v_aload_n (n := 257) k dX5_render_256 rfl rfl ?_
    refine v_get (n := 260) k ciX5 0 15 (by decide) fl_X5_38 rfl rfl dX5_render_257 rfl ?_
    refine v_iload (n := 262) k dX5_render_260 rfl rfl ?_
    refine v_ialdN (n := 263) k 5 0 (u) rfl rfl (by omega) (by omega) (by omega) dX5_render_262 rfl ?_
    refine v_icmp_ge (n := 266) (t := 289) k (⟨by omega, by omega⟩) (⟨by omega, by omega⟩) dX5_render_263 (by decide) rfl (fun c_263 => ?_) (fun c_263 => ?_)
    · have e8 : i = q.1 u := by omega
      rw [e2, e1, e8]
      exact hk9
    · refine v_aload_n (n := 267) k dX5_render_266 rfl rfl ?_
      refine v_get (n := 270) k ciX5 0 23 (by decide) fl_X5_59 rfl rfl dX5_render_267 rfl ?_
      refine v_iload_n (n := 271) k dX5_render_270 rfl rfl ?_
      refine v_aload_n (n := 272) k dX5_render_271 rfl rfl ?_
      refine v_iload (n := 274) k dX5_render_272 rfl rfl ?_
      refine v_iload (n := 276) k dX5_render_274 rfl rfl ?_
      refine v_rdVi (n := 279) k [0, 7] 0 (z_X5_keyByte (u := u) (j := i) hX e1 hu (by omega)) miX5_keyByte ml_X5_111 (by decide) (by decide) rfl (by decide) rfl rfl rfl rfl (Nat.le_of_ble_eq_true rfl) ⟨Nat.zero_le _, Nat.zero_le _⟩ dX5_render_276 rfl ?_
      refine v_iastN (n := 280) k 9 0 (4 + B0.length + i) rfl rfl (by omega) (by omega) (by omega) (kb q u i) (rfl) dX5_render_279 rfl ?_
      rw [bpi_push (bs := B0 ++ (List.range i).map (kb q u)) (by rw [List.length_append, List.length_map, List.length_range]; omega) (kb_lt q u i), List.append_assoc, ← range_snoc]
      refine v_iinc (n := 283) k dX5_render_280 rfl (by decide) rfl rfl rfl ?_
      refine v_iinc (n := 286) k dX5_render_283 rfl (by decide) rfl rfl rfl ?_
      refine v_goto (t := 254) k dX5_render_286 (by decide) ?_
      exact ih (i + 1) _ _ (by omega) (by omega) (by omega) (by omega)
set_option maxHeartbeats 1000000 in
set_option maxRecDepth 20000 in
theorem lp_X5_render4 {D : va_G} {cI cB cJ cZ : ClassId} {x : Kx} {hm : Nat} {r : Nat → Nat} {th : Int} {pg lg : Nat} {wt al dn : Int} {dp dm tp an ch : Nat} {Dr : Nat → Nat} {En : Nat → Nat} {Bd : Nat → Nat} {Mn : Nat → Nat} {q : RQ} {P N I4 X : Int} {d n L u : Nat} {B0 : List Nat} (k : Kf x cX5_render 7 yX5_render.cls none D (TY cI cB cJ cZ) ({ frames := 1, cells := 0, slots := 0, locals := 23 })) {A : Nat → Prop} (hX : X = (u : Int)) (hu : u < 23040) (hQ : QB q) (hB : B0.length + q.2.1 u ≤ 252) (hk9 : Vw x 7 A D true 0 0 [oM hm r th pg lg wt al dn dp dm tp an ch, aN cI (r 1) 256 Dr, aN cI (r 2) 65536 En, aN cI (r 5) 256 Bd, aN cI (r 6) 256 Mn, aN cI (r 7) 23040 q.1, aN cI (r 8) 23040 q.2.1, aL cJ (r 9) 46080 q.2.2.1, aL cJ (r 10) 92160 q.2.2.2, aN cI (r 13) 256 (bpi d n L (B0 ++ (List.range (q.2.1 u)).map (vb q u)))] 327 [(0, .ref hm), (1, .int (iI P)), (2, .int (iI N)), (3, .int (iI ((4 + B0.length + q.2.1 u : Nat) : Int))), (4, .int (iI I4)), (5, .int (iI X)), (6, .int (iI ((q.2.1 u : Nat) : Int)))] []) : ∀ (m : Nat) (i : Nat) (S I : Int), q.2.1 u < i + m → i ≤ q.2.1 u → I = (i : Int) → S = ((4 + B0.length + i : Nat) : Int) → Vw x 7 A D true 0 0 [oM hm r th pg lg wt al dn dp dm tp an ch, aN cI (r 1) 256 Dr, aN cI (r 2) 65536 En, aN cI (r 5) 256 Bd, aN cI (r 6) 256 Mn, aN cI (r 7) 23040 q.1, aN cI (r 8) 23040 q.2.1, aL cJ (r 9) 46080 q.2.2.1, aL cJ (r 10) 92160 q.2.2.2, aN cI (r 13) 256 (bpi d n L (B0 ++ (List.range i).map (vb q u)))] 292 [(0, .ref hm), (1, .int (iI P)), (2, .int (iI N)), (3, .int (iI S)), (4, .int (iI I4)), (5, .int (iI X)), (6, .int (iI I))] [] := by
  intro m
  induction m with
  | zero => intro i S I hm9 hi e1 e2; omega
  | succ m ih =>
    intro i S I hm9 hi e1 e2
    have hq9 := hQ u
    refine v_iload (n := 294) k dX5_render_292 rfl rfl ?_
    refine v_aload_n (n := 295) k dX5_render_294 rfl rfl ?_
    refine v_get (n := 298) k ciX5 0 16 (by decide) fl_X5_41 rfl rfl dX5_render_295 rfl ?_
    refine v_iload (n := 300) k dX5_render_298 rfl rfl ?_
    refine v_ialdN (n := 301) k 6 0 (u) rfl rfl (by omega) (by omega) (by omega) dX5_render_300 rfl ?_
    refine v_icmp_ge (n := 304) (t := 327) k (⟨by omega, by omega⟩) (⟨by omega, by omega⟩) dX5_render_301 (by decide) rfl (fun c_301 => ?_) (fun c_301 => ?_)
    · have e8 : i = q.2.1 u := by omega
      rw [e2, e1, e8]
      exact hk9
    · refine v_aload_n (n := 305) k dX5_render_304 rfl rfl ?_
      refine v_get (n := 308) k ciX5 0 23 (by decide) fl_X5_59 rfl rfl dX5_render_305 rfl ?_
      refine v_iload_n (n := 309) k dX5_render_308 rfl rfl ?_
      refine v_aload_n (n := 310) k dX5_render_309 rfl rfl ?_
      refine v_iload (n := 312) k dX5_render_310 rfl rfl ?_
      refine v_iload (n := 314) k dX5_render_312 rfl rfl ?_
      refine v_rdVi (n := 317) k [0, 8] 0 (z_X5_valueByte (u := u) (j := i) hX e1 hu (by omega)) miX5_valueByte ml_X5_121 (by decide) (by decide) rfl (by decide) rfl rfl rfl rfl (Nat.le_of_ble_eq_true rfl) ⟨Nat.zero_le _, Nat.zero_le _⟩ dX5_render_314 rfl ?_
      refine v_iastN (n := 318) k 9 0 (4 + B0.length + i) rfl rfl (by omega) (by omega) (by omega) (vb q u i) (rfl) dX5_render_317 rfl ?_
      rw [bpi_push (bs := B0 ++ (List.range i).map (vb q u)) (by rw [List.length_append, List.length_map, List.length_range]; omega) (vb_lt q u i), List.append_assoc, ← range_snoc]
      refine v_iinc (n := 321) k dX5_render_318 rfl (by decide) rfl rfl rfl ?_
      refine v_iinc (n := 324) k dX5_render_321 rfl (by decide) rfl rfl rfl ?_
      refine v_goto (t := 292) k dX5_render_324 (by decide) ?_
      exact ih (i + 1) _ _ (by omega) (by omega) (by omega) (by omega)
theorem rcB_fl (q : RQ) (p n : Nat) : (((rcs q p n).flatten ++ [q.1 (90 * p + n)]) ++ [q.2.1 (90 * p + n)]) ++ (List.range (q.1 (90 * p + n))).map (kb q (90 * p + n)) ++ (List.range (q.2.1 (90 * p + n))).map (vb q (90 * p + n)) = (rcs q p (n + 1)).flatten := by
  rw [rcs_s, List.flatten_append]
  simp [rcB]
theorem v_lvf5 {x : Kx} {nL : Nat} {D : va_G} {A : Nat → Prop} {wr : Bool} {cells slots : Nat} {ws : va_W} {pc : Nat} {a b c d e f g : Nat × Value} {st : List Value} (h : Vw x nL A D wr cells slots ws pc [a, b, c, d, e] st) : Vw x nL A D wr cells slots ws pc [a, b, c, d, e, f, g] st := by
  intro H locs ls h1 h2 h3 h4
  refine h H locs ls h1 h2 h3 ⟨h4.1, h4.2.1, fun z hz => h4.2.2 z ?_⟩
  simp only [List.mem_cons, List.not_mem_nil, or_false] at hz ⊢
  rcases hz with h | h | h | h | h
  · exact Or.inl h
  · exact Or.inr (Or.inl h)
  · exact Or.inr (Or.inr (Or.inl h))
  · exact Or.inr (Or.inr (Or.inr (Or.inl h)))
  · exact Or.inr (Or.inr (Or.inr (Or.inr (Or.inl h))))
set_option maxHeartbeats 1000000 in
set_option maxRecDepth 20000 in
theorem lp_X5_render5 {D : va_G} {cI cB cJ cZ : ClassId} {x : Kx} {hm : Nat} {r : Nat → Nat} {th : Int} {pg lg : Nat} {wt al dn : Int} {dp dm tp an ch : Nat} {Dr : Nat → Nat} {En : Nat → Nat} {Bd : Nat → Nat} {Mn : Nat → Nat} {q : RQ} {P N : Int} {d L p : Nat} (k : Kf x cX5_render 7 yX5_render.cls none D (TY cI cB cJ cZ) ({ frames := 1, cells := 0, slots := 0, locals := 23 })) {A : Nat → Prop} (hP : P = (p : Int)) (hp : p < 256) (hM : Mn p ≤ 84) (hQ : QB q) (hbt : btM q p (Mn p) ≤ 252) (hk9 : ∀ S : Int, Vw x 7 A D true 0 0 [oM hm r th pg lg wt al dn dp dm tp an ch, aN cI (r 1) 256 Dr, aN cI (r 2) 65536 En, aN cI (r 5) 256 Bd, aN cI (r 6) 256 Mn, aN cI (r 7) 23040 q.1, aN cI (r 8) 23040 q.2.1, aL cJ (r 9) 46080 q.2.2.1, aL cJ (r 10) 92160 q.2.2.2, aN cI (r 13) 256 (bpi d (Mn p) L (rcs q p (Mn p)).flatten)] 333 [(0, .ref hm), (1, .int (iI P)), (2, .int (iI N)), (3, .int (iI S)), (4, .int (iI ((Mn p : Nat) : Int)))] []) : ∀ (m : Nat) (i : Nat) (S I : Int), Mn p < i + m → i ≤ Mn p → I = (i : Int) → S = ((4 + btM q p i : Nat) : Int) → Vw x 7 A D true 0 0 [oM hm r th pg lg wt al dn dp dm tp an ch, aN cI (r 1) 256 Dr, aN cI (r 2) 65536 En, aN cI (r 5) 256 Bd, aN cI (r 6) 256 Mn, aN cI (r 7) 23040 q.1, aN cI (r 8) 23040 q.2.1, aL cJ (r 9) 46080 q.2.2.1, aL cJ (r 10) 92160 q.2.2.2, aN cI (r 13) 256 (bpi d (Mn p) L (rcs q p i).flatten)] 200 [(0, .ref hm), (1, .int (iI P)), (2, .int (iI N)), (3, .int (iI S)), (4, .int (iI I))] [] := by
  intro m
  induction m with
  | zero => intro i S I hm9 hi e1 e2; omega
  | succ m ih =>
    intro i S I hm9 hi e1 e2
    have hq9 := hQ (90 * p + i)
    refine v_iload (n := 202) k dX5_render_200 rfl rfl ?_
    refine v_aload_n (n := 203) k dX5_render_202 rfl rfl ?_
    refine v_get (n := 206) k ciX5 0 14 (by decide) fl_X5_35 rfl rfl dX5_render_203 rfl ?_
    refine v_iload_n (n := 207) k dX5_render_206 rfl rfl ?_
    refine v_ialdN (n := 208) k 4 0 (p) rfl rfl (by omega) (by omega) (by omega) dX5_render_207 rfl ?_
    refine v_icmp_ge (n := 211) (t := 333) k (⟨by omega, by omega⟩) (⟨by omega, by omega⟩) dX5_render_208 (by decide) rfl (fun c_208 => ?_) (fun c_208 => ?_)
    · have e8 : i = Mn p := by omega
      rw [e8, show I = ((Mn p : Nat) : Int) by omega]
      exact hk9 _
    · have hbm := btM_mono q p (i := i) (n := Mn p) (by omega)
      refine v_bipush (n := 213) k dX5_render_211 (by decide) rfl ?_
      refine v_iload_n (n := 214) k dX5_render_213 rfl rfl ?_
      refine v_imul (n := 215) k dX5_render_214 rfl ?_
      refine v_iload (n := 217) k dX5_render_215 rfl rfl ?_
      refine v_iadd (n := 218) k dX5_render_217 rfl ?_
      refine v_istore (n := 220) k dX5_render_218 rfl (by decide) rfl rfl ?_
      refine v_aload_n (n := 221) k dX5_render_220 rfl rfl ?_
      refine v_get (n := 224) k ciX5 0 23 (by decide) fl_X5_59 rfl rfl dX5_render_221 rfl ?_
      refine v_iload_n (n := 225) k dX5_render_224 rfl rfl ?_
      refine v_aload_n (n := 226) k dX5_render_225 rfl rfl ?_
      refine v_get (n := 229) k ciX5 0 15 (by decide) fl_X5_38 rfl rfl dX5_render_226 rfl ?_
      refine v_iload (n := 231) k dX5_render_229 rfl rfl ?_
      refine v_ialdN (n := 232) k 5 0 (90 * p + i) rfl rfl (by omega) (by omega) (by omega) dX5_render_231 rfl ?_
      refine v_iastN (n := 233) k 9 0 (4 + btM q p i) rfl rfl (by omega) (by omega) (by omega) (q.1 (90 * p + i)) (rfl) dX5_render_232 rfl ?_
      rw [bpi_push (bs := (rcs q p i).flatten) (by rw [rcs_fl]) (by omega)]
      refine v_aload_n (n := 234) k dX5_render_233 rfl rfl ?_
      refine v_get (n := 237) k ciX5 0 23 (by decide) fl_X5_59 rfl rfl dX5_render_234 rfl ?_
      refine v_iload_n (n := 238) k dX5_render_237 rfl rfl ?_
      refine v_iconst (n := 239) k dX5_render_238 rfl ?_
      refine v_iadd (n := 240) k dX5_render_239 rfl ?_
      refine v_aload_n (n := 241) k dX5_render_240 rfl rfl ?_
      refine v_get (n := 244) k ciX5 0 16 (by decide) fl_X5_41 rfl rfl dX5_render_241 rfl ?_
      refine v_iload (n := 246) k dX5_render_244 rfl rfl ?_
      refine v_ialdN (n := 247) k 6 0 (90 * p + i) rfl rfl (by omega) (by omega) (by omega) dX5_render_246 rfl ?_
      refine v_iastN (n := 248) k 9 0 (4 + btM q p i + 1) rfl rfl (by omega) (by omega) (by omega) (q.2.1 (90 * p + i)) (rfl) dX5_render_247 rfl ?_
      rw [bpi_push (bs := (rcs q p i).flatten ++ [q.1 (90 * p + i)]) (by rw [List.length_append, rcs_fl]; rfl) (by omega)]
      refine v_iinc (n := 251) k dX5_render_248 rfl (by decide) rfl rfl rfl ?_
      refine v_iconst (n := 252) k dX5_render_251 rfl ?_
      refine v_istore (n := 254) k dX5_render_252 rfl (by decide) rfl rfl ?_
      have hl9 : (((rcs q p i).flatten ++ [q.1 (90 * p + i)]) ++ [q.2.1 (90 * p + i)]).length = btM q p i + 2 := by
        rw [List.length_append, List.length_append, rcs_fl]; rfl
      have el : (List.range 0).map (kb q (90 * p + i)) = [] := rfl
      refine v_ws (ws' := [oM hm r th pg lg wt al dn dp dm tp an ch, aN cI (r 1) 256 Dr, aN cI (r 2) 65536 En, aN cI (r 5) 256 Bd, aN cI (r 6) 256 Mn, aN cI (r 7) 23040 q.1, aN cI (r 8) 23040 q.2.1, aL cJ (r 9) 46080 q.2.2.1, aL cJ (r 10) 92160 q.2.2.2, aN cI (r 13) 256 (bpi d (Mn p) L ((((rcs q p i).flatten ++ [q.1 (90 * p + i)]) ++ [q.2.1 (90 * p + i)]) ++ (List.range 0).map (kb q (90 * p + i))))]) (by rw [el, List.append_nil]; rfl) ?_
      refine lp_X5_render3 k (u := 90 * p + i) (by omega) (by omega) hQ (by omega) ?_ (q.1 (90 * p + i) + 1) 0 _ _ (by omega) (by omega) rfl (by omega)
      refine v_iconst (n := 290) k dX5_render_289 rfl ?_
      refine v_istore (n := 292) k dX5_render_290 rfl (by decide) rfl rfl ?_
      have hl8 : ((((rcs q p i).flatten ++ [q.1 (90 * p + i)]) ++ [q.2.1 (90 * p + i)]) ++ (List.range (q.1 (90 * p + i))).map (kb q (90 * p + i))).length = btM q p i + 2 + q.1 (90 * p + i) := by
        rw [List.length_append, hl9, List.length_map, List.length_range]
      have el : (List.range 0).map (vb q (90 * p + i)) = [] := rfl
      refine v_ws (ws' := [oM hm r th pg lg wt al dn dp dm tp an ch, aN cI (r 1) 256 Dr, aN cI (r 2) 65536 En, aN cI (r 5) 256 Bd, aN cI (r 6) 256 Mn, aN cI (r 7) 23040 q.1, aN cI (r 8) 23040 q.2.1, aL cJ (r 9) 46080 q.2.2.1, aL cJ (r 10) 92160 q.2.2.2, aN cI (r 13) 256 (bpi d (Mn p) L (((((rcs q p i).flatten ++ [q.1 (90 * p + i)]) ++ [q.2.1 (90 * p + i)]) ++ (List.range (q.1 (90 * p + i))).map (kb q (90 * p + i))) ++ (List.range 0).map (vb q (90 * p + i))))]) (by rw [el, List.append_nil]) ?_
      refine lp_X5_render4 k (u := 90 * p + i) (by omega) (by omega) hQ (by omega) ?_ (q.2.1 (90 * p + i) + 1) 0 _ _ (by omega) (by omega) rfl (by omega)
      refine v_iinc (n := 330) k dX5_render_327 rfl (by decide) rfl rfl rfl ?_
      refine v_goto (t := 200) k dX5_render_330 (by decide) ?_
      rw [rcB_fl]
      refine v_lvf5 ?_
      refine ih (i + 1) _ _ (by omega) (by omega) (by omega) ?_
      rw [hl8]
      show _ = ((4 + (btM q p i + (2 + q.1 (90 * p + i) + q.2.1 (90 * p + i))) : Nat) : Int)
      omega
set_option maxHeartbeats 1000000 in
set_option maxRecDepth 20000 in
theorem lp_X5_render6 {D : va_G} {cI cB cJ cZ : ClassId} {x : Kx} {hm : Nat} {r : Nat → Nat} {th : Int} {pg lg : Nat} {wt al dn : Int} {dp dm tp an ch : Nat} {Dr : Nat → Nat} {En : Nat → Nat} {Bd : Nat → Nat} {Mn : Nat → Nat} {q : RQ} {P : Int} {p : Nat} (k : Kf x cX5_render 7 yX5_render.cls none D (TY cI cB cJ cZ) ({ frames := 1, cells := 0, slots := 0, locals := 23 })) (hq : isU x D [hm, r 1, r 2, r 5, r 6, r 7, r 8, r 9, r 10, r 13] (fun v w1 => v = none ∧ w1 = [oM hm r th pg lg wt al dn dp dm tp an ch, aN cI (r 1) 256 Dr, aN cI (r 2) 65536 En, aN cI (r 5) 256 Bd, aN cI (r 6) 256 Mn, aN cI (r 7) 23040 q.1, aN cI (r 8) 23040 q.2.1, aL cJ (r 9) 46080 q.2.2.1, aL cJ (r 10) 92160 q.2.2.2, aN cI (r 13) 256 (rnM dp dm Dr En Bd Mn q p)])) (hP : P = (p : Int)) (hp : p < 256) (hdp : dp ≤ 15) (hdm : dm ≤ 255) (hD : ∀ j, Dr j < 256) (hM : Mn p ≤ 84) (hQ : QB q) (hbt : p ≠ 0 → dfM Dr dm p = none → btM q p (Mn p) ≤ 252) (hp0 : p ≠ 0) : ∀ (m : Nat) (i : Nat) (I : Int), dm < i + m → i ≤ dm → I = (i : Int) → (∀ r, r < i → (Dr r == p) = false) → Vw x 7 (fun q => q ∈ [hm, r 1, r 2, r 5, r 6, r 7, r 8, r 9, r 10, r 13]) D true 0 0 [oM hm r th pg lg wt al dn dp dm tp an ch, aN cI (r 1) 256 Dr, aN cI (r 2) 65536 En, aN cI (r 5) 256 Bd, aN cI (r 6) 256 Mn, aN cI (r 7) 23040 q.1, aN cI (r 8) 23040 q.2.1, aL cJ (r 9) 46080 q.2.2.1, aL cJ (r 10) 92160 q.2.2.2, aN cI (r 13) 256 (fun _ => 0)] 69 [(0, .ref hm), (1, .int (iI P)), (2, .int (iI I))] [] := by
  intro m
  induction m with
  | zero => intro i I hm9 hi e1 e3; omega
  | succ m ih =>
    intro i I hm9 hi e1 e3
    have hd9 := hD i
    refine v_iload_n (n := 70) k dX5_render_69 rfl rfl ?_
    refine v_aload_n (n := 71) k dX5_render_70 rfl rfl ?_
    refine v_get (n := 74) k ciX5 0 8 (by decide) fl_X5_98 rfl rfl dX5_render_71 rfl ?_
    refine v_icmp_ge (n := 77) (t := 143) k (⟨by omega, by omega⟩) (⟨by omega, by omega⟩) dX5_render_74 (by decide) rfl (fun c_74 => ?_) (fun c_74 => ?_)
    · have hn9 : dfM Dr dm p = none := find_range_n (fun r hr => e3 r (by omega))
      have hb9 := hbt hp0 hn9
      refine v_aload_n (n := 144) k dX5_render_143 rfl rfl ?_
      refine v_iload_n (n := 145) k dX5_render_144 rfl rfl ?_
      refine v_rdVi (n := 148) k [0, 4, 5, 6] 0 (z_X5_bytesOf (p := p) hP hp hM hQ) miX5_bytesOf ml_X5_117 (by decide) (by decide) rfl (by decide) rfl rfl rfl rfl (Nat.le_of_ble_eq_true rfl) ⟨Nat.zero_le _, Nat.zero_le _⟩ dX5_render_145 rfl ?_
      refine v_istore_n (n := 149) k dX5_render_148 rfl (by decide) rfl rfl ?_
      refine v_aload_n (n := 150) k dX5_render_149 rfl rfl ?_
      refine v_get (n := 153) k ciX5 0 23 (by decide) fl_X5_59 rfl rfl dX5_render_150 rfl ?_
      refine v_iconst (n := 154) k dX5_render_153 rfl ?_
      refine v_aload_n (n := 155) k dX5_render_154 rfl rfl ?_
      refine v_get (n := 158) k ciX5 0 13 (by decide) fl_X5_32 rfl rfl dX5_render_155 rfl ?_
      refine v_iload_n (n := 159) k dX5_render_158 rfl rfl ?_
      refine v_ialdN (n := 160) k 3 0 (p) rfl rfl (by omega) (by omega) (by omega) dX5_render_159 rfl ?_
      refine v_iastN (n := 161) k 9 0 (0) rfl rfl (by omega) (by omega) (by omega) (Bd p) (rfl) dX5_render_160 rfl ?_
      refine v_aload_n (n := 162) k dX5_render_161 rfl rfl ?_
      refine v_get (n := 165) k ciX5 0 23 (by decide) fl_X5_59 rfl rfl dX5_render_162 rfl ?_
      refine v_iconst (n := 166) k dX5_render_165 rfl ?_
      refine v_aload_n (n := 167) k dX5_render_166 rfl rfl ?_
      refine v_get (n := 170) k ciX5 0 14 (by decide) fl_X5_35 rfl rfl dX5_render_167 rfl ?_
      refine v_iload_n (n := 171) k dX5_render_170 rfl rfl ?_
      refine v_ialdN (n := 172) k 4 0 (p) rfl rfl (by omega) (by omega) (by omega) dX5_render_171 rfl ?_
      refine v_iastN (n := 173) k 9 0 (1) rfl rfl (by omega) (by omega) (by omega) (Mn p) (rfl) dX5_render_172 rfl ?_
      refine v_aload_n (n := 174) k dX5_render_173 rfl rfl ?_
      refine v_get (n := 177) k ciX5 0 23 (by decide) fl_X5_59 rfl rfl dX5_render_174 rfl ?_
      refine v_iconst (n := 178) k dX5_render_177 rfl ?_
      refine v_iload_n (n := 179) k dX5_render_178 rfl rfl ?_
      refine v_sipush (n := 182) k dX5_render_179 (by decide) rfl ?_
      refine v_idiv (n := 183) k (((btM q p (Mn p) / 256 : Nat) : Int)) (ax_ne0 (by omega) (by omega)) (ax_div rfl rfl (by omega) (by omega) (by omega)) dX5_render_182 rfl ?_
      refine v_iastN (n := 184) k 9 0 (2) rfl rfl (by omega) (by omega) (by omega) (btM q p (Mn p) / 256) (rfl) dX5_render_183 rfl ?_
      refine v_aload_n (n := 185) k dX5_render_184 rfl rfl ?_
      refine v_get (n := 188) k ciX5 0 23 (by decide) fl_X5_59 rfl rfl dX5_render_185 rfl ?_
      refine v_iconst (n := 189) k dX5_render_188 rfl ?_
      refine v_iload_n (n := 190) k dX5_render_189 rfl rfl ?_
      refine v_sipush (n := 193) k dX5_render_190 (by decide) rfl ?_
      refine v_irem (n := 194) k (((btM q p (Mn p) % 256 : Nat) : Int)) (ax_ne0 (by omega) (by omega)) (ax_rem rfl rfl (by omega) (by omega) (by omega)) dX5_render_193 rfl ?_
      refine v_iastN (n := 195) k 9 0 (3) rfl rfl (by omega) (by omega) (by omega) (btM q p (Mn p) % 256) (rfl) dX5_render_194 rfl ?_
      rw [bpi_new]
      refine v_iconst (n := 196) k dX5_render_195 rfl ?_
      refine v_istore_n (n := 197) k dX5_render_196 rfl (by decide) rfl rfl ?_
      refine v_iconst (n := 198) k dX5_render_197 rfl ?_
      refine v_istore (n := 200) k dX5_render_198 rfl (by decide) rfl rfl ?_
      have ez : (rcs q p 0).flatten = [] := rfl
      refine v_ws (ws' := [oM hm r th pg lg wt al dn dp dm tp an ch, aN cI (r 1) 256 Dr, aN cI (r 2) 65536 En, aN cI (r 5) 256 Bd, aN cI (r 6) 256 Mn, aN cI (r 7) 23040 q.1, aN cI (r 8) 23040 q.2.1, aL cJ (r 9) 46080 q.2.2.1, aL cJ (r 10) 92160 q.2.2.2, aN cI (r 13) 256 (bpi (Bd p) (Mn p) (btM q p (Mn p)) (rcs q p 0).flatten)]) (by rw [ez]; rfl) ?_
      refine lp_X5_render5 k hP hp hM hQ hb9 (fun S9 => ?_) (Mn p + 1) 0 _ _ (by omega) (by omega) rfl rfl
      refine v_vretU k hq ?_ rfl dX5_render_333
      refine ⟨rfl, ?_⟩
      rw [rnM_b hp0 hn9]
      unfold bkM bpg
      rw [rcs_len, rcs_fl]
    · refine v_aload_n (n := 78) k dX5_render_77 rfl rfl ?_
      refine v_get (n := 81) k ciX5 0 9 (by decide) fl_X5_18 rfl rfl dX5_render_78 rfl ?_
      refine v_iload_n (n := 82) k dX5_render_81 rfl rfl ?_
      refine v_ialdN (n := 83) k 1 0 (i) rfl rfl (by omega) (by omega) (by omega) dX5_render_82 rfl ?_
      refine v_iload_n (n := 84) k dX5_render_83 rfl rfl ?_
      refine v_icmp_ne (n := 87) (t := 137) k (⟨by omega, by omega⟩) (⟨by omega, by omega⟩) dX5_render_84 (by decide) rfl (fun c_84 => ?_) (fun c_84 => ?_)
      · refine v_iinc (n := 140) k dX5_render_137 rfl (by decide) rfl rfl rfl ?_
        refine v_goto (t := 69) k dX5_render_140 (by decide) ?_
        exact ih (i + 1) _ (by omega) (by omega) (by omega) (fun r hr => by
          rcases Nat.lt_or_ge r i with q9 | q9
          · exact e3 r q9
          · have : r = i := by omega
            rw [this]
            exact beq_false_of_ne (by omega))
      · refine v_iconst (n := 88) k dX5_render_87 rfl ?_
        refine v_istore_n (n := 89) k dX5_render_88 rfl (by decide) rfl rfl ?_
        have hs9 : dfM Dr dm p = some i := find_range (by omega) (beq_iff_eq.mpr (by omega)) e3
        have ez : loz (fun j => En (i * 256 + j)) 0 = fun _ => 0 := lo_0 _ _
        refine v_ws (ws' := [oM hm r th pg lg wt al dn dp dm tp an ch, aN cI (r 1) 256 Dr, aN cI (r 2) 65536 En, aN cI (r 5) 256 Bd, aN cI (r 6) 256 Mn, aN cI (r 7) 23040 q.1, aN cI (r 8) 23040 q.2.1, aL cJ (r 9) 46080 q.2.2.1, aL cJ (r 10) 92160 q.2.2.2, aN cI (r 13) 256 (loz (fun j => En (i * 256 + j)) 0)]) (by rw [ez]) ?_
        refine lp_X5_render2 k hdp e1 (by omega) (fun i9 => ?_) 257 0 _ (by omega) (by omega) rfl (fun j hj => absurd hj (by omega))
        refine v_vretU k hq ?_ rfl dX5_render_136
        exact ⟨rfl, by rw [rnM_d hp0 hs9]⟩
set_option maxHeartbeats 1000000 in
set_option maxRecDepth 20000 in
theorem z_X5_render {D : va_G} {cI cB cJ cZ : ClassId} {hm : Nat} {r : Nat → Nat} {th : Int} {pg lg : Nat} {wt al dn : Int} {dp dm tp an ch : Nat} {Dr : Nat → Nat} {En : Nat → Nat} {Bd : Nat → Nat} {Mn : Nat → Nat} {Ou : Nat → Nat} {q : RQ} {P : Int} {p : Nat} (hP : P = (p : Int)) (hp : p < 256) (hdp : dp ≤ 15) (hdm : dm ≤ 255) (hD : ∀ j, Dr j < 256) (hM : Mn p ≤ 84) (hQ : QB q) (hbt : p ≠ 0 → dfM Dr dm p = none → btM q p (Mn p) ≤ 252) : ∀ l, Up l yX5_render cX5_render 7 none ({ frames := 1, cells := 0, slots := 0, locals := 23 }) D (TY cI cB cJ cZ) [.ref hm, .int (iI P)] [oM hm r th pg lg wt al dn dp dm tp an ch, aN cI (r 1) 256 Dr, aN cI (r 2) 65536 En, aN cI (r 5) 256 Bd, aN cI (r 6) 256 Mn, aN cI (r 7) 23040 q.1, aN cI (r 8) 23040 q.2.1, aL cJ (r 9) 46080 q.2.2.1, aL cJ (r 10) 92160 q.2.2.2, aN cI (r 13) 256 Ou] (fun v w1 => v = none ∧ w1 = [oM hm r th pg lg wt al dn dp dm tp an ch, aN cI (r 1) 256 Dr, aN cI (r 2) 65536 En, aN cI (r 5) 256 Bd, aN cI (r 6) 256 Mn, aN cI (r 7) 23040 q.1, aN cI (r 8) 23040 q.2.1, aL cJ (r 9) 46080 q.2.2.1, aL cJ (r 10) 92160 q.2.2.2, aN cI (r 13) 256 (rnM dp dm Dr En Bd Mn q p)]) := by
  intro l
  refine Up_of (by decide) (Nat.le_of_ble_eq_true rfl) (fun x k hq => ?_)
  refine v_iconst (n := 1) k dX5_render_0 rfl ?_
  refine v_istore_n (n := 2) k dX5_render_1 rfl (by decide) rfl rfl ?_
  have e0 := lo_0 (fun _ => 0) Ou
  refine v_ws (ws' := [oM hm r th pg lg wt al dn dp dm tp an ch, aN cI (r 1) 256 Dr, aN cI (r 2) 65536 En, aN cI (r 5) 256 Bd, aN cI (r 6) 256 Mn, aN cI (r 7) 23040 q.1, aN cI (r 8) 23040 q.2.1, aL cJ (r 9) 46080 q.2.2.1, aL cJ (r 10) 92160 q.2.2.2, aN cI (r 13) 256 (lo (fun _ => 0) Ou 0)]) (by rw [e0]) ?_
  refine lp_X5_render0 k ?_ 257 0 _ (by omega) (by omega) rfl
  refine v_iload_n (n := 23) k dX5_render_22 rfl rfl ?_
  refine v_if_ne (n := 26) (t := 67) k (⟨by omega, by omega⟩) dX5_render_23 (by decide) rfl (fun c_23 => ?_) (fun c_23 => ?_)
  · refine v_iconst (n := 68) k dX5_render_67 rfl ?_
    refine v_istore_n (n := 69) k dX5_render_68 rfl (by decide) rfl rfl ?_
    exact lp_X5_render6 k hq hP hp hdp hdm hD hM hQ hbt (by omega) (dm + 1) 0 _ (by omega) (by omega) rfl (fun r hr => absurd hr (by omega))
  · refine v_aload_n (n := 27) k dX5_render_26 rfl rfl ?_
    refine v_get (n := 30) k ciX5 0 23 (by decide) fl_X5_59 rfl rfl dX5_render_27 rfl ?_
    refine v_iconst (n := 31) k dX5_render_30 rfl ?_
    refine v_aload_n (n := 32) k dX5_render_31 rfl rfl ?_
    refine v_get (n := 35) k ciX5 0 7 (by decide) fl_X5_95 rfl rfl dX5_render_32 rfl ?_
    refine v_iastN (n := 36) k 9 0 (0) rfl rfl (by omega) (by omega) (by omega) (dp) (rfl) dX5_render_35 rfl ?_
    rw [hd_0 (Dr := Dr)]
    refine v_iconst (n := 37) k dX5_render_36 rfl ?_
    refine v_istore_n (n := 38) k dX5_render_37 rfl (by decide) rfl rfl ?_
    refine lp_X5_render1 k hdm hD ?_ (dm + 1) 0 _ (by omega) (by omega) rfl
    refine v_vretU k hq ?_ rfl dX5_render_66
    have e8 : p = 0 := by omega
    rw [e8, rnM_0]
    exact ⟨rfl, rfl⟩
