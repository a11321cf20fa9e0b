/-- the images of a CHANGE, the first one in page 2 + i -/
def sImg : DA → Nat → List (Nat × (Nat → Nat)) → Bool × DA
  | a, _, [] => (true, a)
  | a, i, c :: l => match sW a (2 + i) c.2 with
    | (false, a') => (false, a')
    | (true, a') => sImg a' (i + 1) l
/-- alike but for the images -/
def AGR (lg : Nat) (C C' : Nat → Nat) : Prop := ∀ p, (p < 2 ∨ lg + 2 ≤ p) → ∀ i, i < 256 → pb C' p i = pb C p i
theorem AGR.rf {lg : Nat} {C : Nat → Nat} : AGR lg C C := fun _ _ _ _ => rfl
theorem AGR.tr {lg : Nat} {C C' C'' : Nat → Nat} (h : AGR lg C C') (g : AGR lg C' C'') : AGR lg C C'' := fun p hp i hi => (g p hp i hi).trans (h p hp i hi)
theorem AGR.wr {lg q : Nat} {C f : Nat → Nat} (h1 : 2 ≤ q) (h2 : q < lg + 2) : AGR lg C (wrp C q f) := fun p hp i hi => wrp_out hi (by omega)
theorem AGR.c0 {lg : Nat} {C C' : Nat → Nat} (h : AGR lg C C') {j : Nat} (hj : j < 256) : C' j = C j := by
  have := h 0 (Or.inl (by omega)) j hj
  rw [pb0, pb0] at this
  exact this
theorem AGR.HA {lg pg : Nat} {C C' : Nat → Nat} (h : AGR lg C C') (hw : DW C pg lg) : HA C C' := by
  refine ⟨fun j hj => h.c0 hj, fun k hk i hi => h _ (Or.inr ?_) i hi⟩
  rw [pb0]
  exact hw.2.2.2.2.2.1 k hk
theorem AGR.dw {lg pg : Nat} {C C' : Nat → Nat} (h : AGR lg C C') (hw : DW C pg lg) (hC : ∀ j, C' j < 256) : DW C' pg lg := by
  obtain ⟨w1, w2, w3, w4, w5, w6, w7⟩ := hw
  have h7 := pF_lt w4
  have e0 : C' 0 = C 0 := h.c0 (by omega)
  refine ⟨w1, w2, hC, by rw [e0]; exact w4, fun k hk => ?_, fun k hk => ?_, w7⟩
  · rw [e0] at hk
    rw [h.c0 (by omega)]
    exact w5 k hk
  · rw [e0] at hk
    rw [h.c0 (by omega)]
    exact w6 k hk
theorem sW_agr {C f : Nat → Nat} {wt al dn : Int} {q lg : Nat} {b : Bool} {C2 : Nat → Nat} {wt2 al2 dn2 : Int} (h : sW (C, wt, al, dn) q f = (b, C2, wt2, al2, dn2)) (h1 : 2 ≤ q) (h2 : q < lg + 2) : AGR lg C C2 := by
  rcases sW_1 h with e | e
  · rw [e]; exact AGR.rf
  · rw [e]; exact AGR.wr h1 h2
theorem sW_lt {C f : Nat → Nat} {wt al dn : Int} {q : Nat} {b : Bool} {C2 : Nat → Nat} {wt2 al2 dn2 : Int} (h : sW (C, wt, al, dn) q f = (b, C2, wt2, al2, dn2)) (hC : ∀ j, C j < 256) (hf : ∀ j, j < 256 → f j < 256) : ∀ j, C2 j < 256 := by
  rcases sW_1 h with e | e
  · rw [e]; exact hC
  · rw [e]; exact wrp_lt hC hf
def rti (C : Nat → Nat) (kk a b q n : Nat) : Nat → Nat := fun j => if 256 ≤ j then 0 else if j < n ∧ a ≤ kk * 256 + j ∧ kk * 256 + j < b then q else pb C (pb C 0 (1 + kk)) j
/-- page kk of the directory, where the entries a to b - 1 tell q -/
def rtp (C : Nat → Nat) (kk a b q : Nat) : Nat → Nat := rti C kk a b q 256
theorem rti_0 (C : Nat → Nat) (kk a b q : Nat) {j : Nat} (hj : j < 256) : pb C (pb C 0 (1 + kk)) j = rti C kk a b q 0 j := by
  unfold rti
  rw [if_neg (by omega), if_neg (by omega)]
theorem rti_t {C : Nat → Nat} {kk a b q n : Nat} (h : a ≤ kk * 256 + n ∧ kk * 256 + n < b) (hq : q < 256) (hn : n < 256) : upN (rti C kk a b q n) n (q % 256) = rti C kk a b q (n + 1) := by
  funext j
  unfold upN rti
  by_cases e : j = n
  · subst e
    rw [if_pos rfl, if_neg (by omega), if_pos ⟨by omega, h⟩, Nat.mod_eq_of_lt hq]
  · rw [if_neg e]
    by_cases g0 : 256 ≤ j
    · rw [if_pos g0, if_pos g0]
    rw [if_neg g0, if_neg g0]
    by_cases g : j < n ∧ a ≤ kk * 256 + j ∧ kk * 256 + j < b
    · rw [if_pos g, if_pos ⟨by omega, g.2⟩]
    · rw [if_neg g, if_neg (by omega)]
theorem rti_f {C : Nat → Nat} {kk a b q n : Nat} (h : ¬ (a ≤ kk * 256 + n ∧ kk * 256 + n < b)) : rti C kk a b q n = rti C kk a b q (n + 1) := by
  funext j
  unfold rti
  by_cases g0 : 256 ≤ j
  · rw [if_pos g0, if_pos g0]
  rw [if_neg g0, if_neg g0]
  by_cases g : j < n ∧ a ≤ kk * 256 + j ∧ kk * 256 + j < b
  · rw [if_pos g, if_pos ⟨by omega, g.2⟩]
  · rw [if_neg g]
    by_cases g2 : j < n + 1 ∧ a ≤ kk * 256 + j ∧ kk * 256 + j < b
    · have : j = n := by omega
      subst this
      exact absurd g2.2 h
    · rw [if_neg g2]
/-- the directory's pages, from kk on, in which the entries a to b - 1 tell q now -/
def rtL (C : Nat → Nat) (a b q : Nat) : Nat → Nat → List (Nat × (Nat → Nat))
  | 0, _ => []
  | m + 1, kk => (pb C 0 (1 + kk), rtp C kk a b q) :: rtL C a b q m (kk + 1)
theorem rtp_agr {lg pg : Nat} {C C' : Nat → Nat} (h : AGR lg C C') (hw : DW C pg lg) {kk a b q : Nat} (hk : kk < pF (C 0)) : rtp C' kk a b q = rtp C kk a b q := by
  funext j
  have h7 := pF_lt hw.2.2.2.1
  unfold rtp rti
  by_cases g0 : 256 ≤ j
  · rw [if_pos g0, if_pos g0]
  rw [if_neg g0, if_neg g0, pb0 C', h.c0 (by omega), ← pb0 C, (h.HA hw).2 kk hk j (by omega)]
theorem rtL_agr {lg pg : Nat} {C C' : Nat → Nat} (h : AGR lg C C') (hw : DW C pg lg) {a b q : Nat} : ∀ (m kk : Nat), kk + m ≤ pF (C 0) → rtL C' a b q m kk = rtL C a b q m kk := by
  intro m
  induction m with
  | zero => intro kk _; rfl
  | succ m ih =>
    intro kk hk
    have h7 := pF_lt hw.2.2.2.1
    rw [rtL, rtL, rtp_agr h hw (by omega), ih (kk + 1) (by omega), pb0, pb0, h.c0 (by omega)]
theorem rtL_len (C : Nat → Nat) (a b q m kk : Nat) : (rtL C a b q m kk).length = m := by
  induction m generalizing kk with
  | zero => rfl
  | succ m ih => rw [rtL, List.length_cons, ih]
theorem rtL_fst (C : Nat → Nat) (a b q m kk : Nat) : ∀ x ∈ (rtL C a b q m kk).map Prod.fst, ∃ t, kk ≤ t ∧ t < kk + m ∧ x = pb C 0 (1 + t) := by
  induction m generalizing kk with
  | zero => intro x hx; simp [rtL] at hx
  | succ m ih =>
    intro x hx
    rw [rtL, List.map_cons] at hx
    rcases List.mem_cons.mp hx with e | hx
    · exact ⟨kk, by omega, by omega, e⟩
    · obtain ⟨t, h1, h2, h3⟩ := ih (kk + 1) x hx
      exact ⟨t, by omega, by omega, h3⟩
theorem rtp_lt {C : Nat → Nat} {kk a b q : Nat} (hC : ∀ j, C j < 256) (hq : q < 256) : ∀ j, j < 256 → rtp C kk a b q j < 256 := by
  intro j _
  unfold rtp rti
  split
  · decide
  · split
    · exact hq
    · exact hC _
set_option maxHeartbeats 1000000 in
set_option maxRecDepth 20000 in
theorem lp_X4_retell_i {D : va_G} {cI cB cJ cZ : ClassId} {x : Kx} {hx hd hc hk hch hb hbb hh ht ha hj hi hjb : Nat} {an : Int} {pg lg : Nat} {K : Nat → Nat} {A B Q : Int} {a b q : Nat} {C : Nat → Nat} {wt al dn ko : Int} {ps : List Nat} {kk : Nat} {L KI PL : Int} {post : Option Value → va_W → Prop} (k : Kf x cX4_retell 9 yX4_retell.cls (some .boolean) D (TY cI cB cJ cZ) ({ frames := 4, cells := 0, slots := 0, locals := 107 })) (hq : isU x D [hx, hd, hc, hk, hch, hb, hbb, hj, hjb] (post)) (hA : A = (a : Int)) (hB : B = (b : Int)) (hQ : Q = (q : Int)) (hab : a < b) (hq256 : q < 256) (hg : pg ≤ 255) (hb9 : b ≤ 32768) (hkk : kk ≤ 256) (hKI : KI = (kk : Int)) (hc9 : Vw x 9 (fun q => q ∈ [hx, hd, hc, hk, hch, hb, hbb, hj, hjb]) D true 0 0 [oHash hx hd hch hb hh ht ha an, oDisk hd hc hk ko pg lg wt al dn, aN cI hc 65280 C, aN cI hk 255 K, oChange hch hd hj hi, oPage hb hbb, aN cI hbb 256 (rtp C kk a b q), oPage hj hjb, aN cI hjb 256 (jpg ps)] 100 [(0, .ref hx), (1, .int (iI A)), (2, .int (iI B)), (3, .int (iI Q)), (4, .int (iI L)), (5, .int (iI KI)), (6, .int (iI PL))] []) : ∀ (m : Nat) (j : Nat) (J : Int), 256 < j + m → j ≤ 256 → J = (j : Int) → Vw x 9 (fun q => q ∈ [hx, hd, hc, hk, hch, hb, hbb, hj, hjb]) D true 0 0 [oHash hx hd hch hb hh ht ha an, oDisk hd hc hk ko pg lg wt al dn, aN cI hc 65280 C, aN cI hk 255 K, oChange hch hd hj hi, oPage hb hbb, aN cI hbb 256 (rti C kk a b q j), oPage hj hjb, aN cI hjb 256 (jpg ps)] 58 [(0, .ref hx), (1, .int (iI A)), (2, .int (iI B)), (3, .int (iI Q)), (4, .int (iI L)), (5, .int (iI KI)), (6, .int (iI PL)), (7, .int (iI (KI * 256))), (8, .int (iI J))] [] := by
  intro m
  induction m with
  | zero => intro j J hm hj e1; omega
  | succ m ih =>
    intro j J hm hj e1
    refine v_iload (n := 60) k dX4_retell_58 rfl rfl ?_
    refine v_sipush (n := 63) k dX4_retell_60 (by decide) rfl ?_
    refine v_icmp_ge (n := 66) (t := 100) k (⟨by omega, by omega⟩) (⟨by omega, by omega⟩) dX4_retell_63 (by decide) rfl (fun c_63 => ?_) (fun c_63 => ?_)
    · have e9 : j = 256 := by omega
      subst e9
      refine v_lvf [(0, .ref hx), (1, .int (iI A)), (2, .int (iI B)), (3, .int (iI Q)), (4, .int (iI L)), (5, .int (iI KI)), (6, .int (iI PL))] ⟨rfl, rfl, rfl, rfl, rfl, rfl, rfl, trivial⟩ ?_
      exact hc9
    · refine v_iload (n := 68) k dX4_retell_66 rfl rfl ?_
      refine v_iload (n := 70) k dX4_retell_68 rfl rfl ?_
      refine v_iadd (n := 71) k dX4_retell_70 rfl ?_
      refine v_iload_n (n := 72) k dX4_retell_71 rfl rfl ?_
      refine v_icmp_lt (n := 75) (t := 94) k (⟨by omega, by omega⟩) (⟨by omega, by omega⟩) dX4_retell_72 (by decide) rfl (fun c_72 => ?_) (fun c_72 => ?_)
      · refine v_iinc (n := 97) k dX4_retell_94 rfl (by decide) rfl rfl rfl ?_
        refine v_goto (t := 58) k dX4_retell_97 (by decide) ?_
        first
        | exact ih (j + 1) (J + 1) (by omega) (by omega) (by omega)
        | (have h0 := ih (j + 1) (J + 1) (by omega) (by omega) (by omega)
           rw [← rti_f (by omega)] at h0
           exact h0)
      · refine v_iload (n := 77) k dX4_retell_75 rfl rfl ?_
        refine v_iload (n := 79) k dX4_retell_77 rfl rfl ?_
        refine v_iadd (n := 80) k dX4_retell_79 rfl ?_
        refine v_iload_n (n := 81) k dX4_retell_80 rfl rfl ?_
        refine v_icmp_ge (n := 84) (t := 94) k (⟨by omega, by omega⟩) (⟨by omega, by omega⟩) dX4_retell_81 (by decide) rfl (fun c_81 => ?_) (fun c_81 => ?_)
        · refine v_iinc (n := 97) k dX4_retell_94 rfl (by decide) rfl rfl rfl ?_
          refine v_goto (t := 58) k dX4_retell_97 (by decide) ?_
          first
          | exact ih (j + 1) (J + 1) (by omega) (by omega) (by omega)
          | (have h0 := ih (j + 1) (J + 1) (by omega) (by omega) (by omega)
             rw [← rti_f (by omega)] at h0
             exact h0)
        · refine v_aload_n (n := 85) k dX4_retell_84 rfl rfl ?_
          refine v_get (n := 88) k ciX4 0 2 (by decide) fl_X4_28 rfl rfl dX4_retell_85 rfl ?_
          refine v_iload (n := 90) k dX4_retell_88 rfl rfl ?_
          refine v_iload_n (n := 91) k dX4_retell_90 rfl rfl ?_
          refine v_upV (n := 94) k [5, 6] 5 (z_X2_set (i := j) (v := q) e1 hQ (by omega)) miX2_set ml_X4_215 (by decide) (by decide) rfl (by decide) rfl rfl rfl rfl (Nat.le_of_ble_eq_true rfl) ⟨Nat.zero_le _, Nat.zero_le _⟩ dX4_retell_91 rfl ?_
          rw [rti_t ⟨by omega, by omega⟩ hq256 (by omega)]
          rintro _ _ ⟨rfl, rfl⟩
          dsimp only [wput, List.set, Option.toList, List.nil_append, List.cons_append]
          refine v_iinc (n := 97) k dX4_retell_94 rfl (by decide) rfl rfl rfl ?_
          refine v_goto (t := 58) k dX4_retell_97 (by decide) ?_
          first
          | exact ih (j + 1) (J + 1) (by omega) (by omega) (by omega)
          | (have h0 := ih (j + 1) (J + 1) (by omega) (by omega) (by omega)
             rw [← rti_f (by omega)] at h0
             exact h0)
set_option maxHeartbeats 1000000 in
set_option maxRecDepth 20000 in
theorem lp_X4_retell {D : va_G} {cI cB cJ cZ : ClassId} {x : Kx} {hx hd hc hk hch hb hbb hh ht ha hj hi hjb : Nat} {an : Int} {pg lg : Nat} {K : Nat → Nat} {A B Q : Int} {a b q : Nat} {C0 : Nat → Nat} {a0 : DA} {ps0 : List Nat} (k : Kf x cX4_retell 9 yX4_retell.cls (some .boolean) D (TY cI cB cJ cZ) ({ frames := 4, cells := 0, slots := 0, locals := 107 })) (hq : isU x D [hx, hd, hc, hk, hch, hb, hbb, hj, hjb] (fun r w1 => ∃ b2 C2 wt2 al2 dn2 ko2 fj fb, sImg a0 ps0.length (rtL C0 a b q ((b - 1) / 256 + 1 - a / 256) (a / 256)) = (b2, C2, wt2, al2, dn2) ∧ (b2 = true → fj = jpg (ps0 ++ (rtL C0 a b q ((b - 1) / 256 + 1 - a / 256) (a / 256)).map Prod.fst)) ∧ KS ko2 K C2 pg lg ∧ in32 al2 ∧ (∀ j, C2 j < 256) ∧ r = some (.int (iI (bI b2))) ∧ w1 = [oHash hx hd hch hb hh ht ha an, oDisk hd hc hk ko2 pg lg wt2 al2 dn2, aN cI hc 65280 C2, aN cI hk 255 K, oChange hch hd hj hi, oPage hb hbb, aN cI hbb 256 (fb), oPage hj hjb, aN cI hjb 256 (fj)])) (hA : A = (a : Int)) (hB : B = (b : Int)) (hQ : Q = (q : Int)) (hab : a < b) (hq256 : q < 256) (hg : pg ≤ 255) (hw : DW C0 pg lg) (hb9 : b ≤ 2 ^ C0 0) (hlp : lg + 4 ≤ pg) : ∀ (m : Nat) (kk : Nat) (KI : Int) (C : Nat → Nat) (wt al dn ko : Int) (fb : Nat → Nat) (ps : List Nat), (b - 1) / 256 + 1 < kk + m → kk ≤ (b - 1) / 256 + 1 → KI = (kk : Int) → AGR lg C0 C → (∀ j, C j < 256) → sImg a0 ps0.length (rtL C0 a b q ((b - 1) / 256 + 1 - a / 256) (a / 256)) = sImg (C, wt, al, dn) ps.length (rtL C0 a b q ((b - 1) / 256 + 1 - kk) kk) → ps0 ++ (rtL C0 a b q ((b - 1) / 256 + 1 - a / 256) (a / 256)).map Prod.fst = ps ++ (rtL C0 a b q ((b - 1) / 256 + 1 - kk) kk).map Prod.fst → KS ko K C pg lg → in32 al → ps.length + ((b - 1) / 256 + 1 - kk) ≤ lg → Vw x 9 (fun q => q ∈ [hx, hd, hc, hk, hch, hb, hbb, hj, hjb]) D true 0 0 [oHash hx hd hch hb hh ht ha an, oDisk hd hc hk ko pg lg wt al dn, aN cI hc 65280 C, aN cI hk 255 K, oChange hch hd hj hi, oPage hb hbb, aN cI hbb 256 (fb), oPage hj hjb, aN cI hjb 256 (jpg ps)] 16 [(0, .ref hx), (1, .int (iI A)), (2, .int (iI B)), (3, .int (iI Q)), (4, .int (iI (((b - 1) / 256 : Nat) : Int))), (5, .int (iI KI))] [] := by
  intro m
  induction m with
  | zero => intro kk KI C wt al dn ko fb ps hm hk9 e1 hag hC e2 e3 hks hal hpl; omega
  | succ m ih =>
    intro kk KI C wt al dn ko fb ps hm hk9 e1 hag hC e2 e3 hks hal hpl
    obtain ⟨w1, w2, w3, w4, w5, w6, w7⟩ := id hw
    have hp15 : 2 ^ C0 0 ≤ 32768 := Nat.le_trans (Nat.pow_le_pow_right (n := 2) (j := 15) (by decide) w4) (by decide)
    have h7 := pF_lt w4
    refine v_iload (n := 18) k dX4_retell_16 rfl rfl ?_
    refine v_iload (n := 20) k dX4_retell_18 rfl rfl ?_
    refine v_icmp_gt (n := 23) (t := 124) k (⟨by omega, by omega⟩) (⟨by omega, by omega⟩) dX4_retell_20 (by decide) rfl (fun c_20 => ?_) (fun c_20 => ?_)
    · refine v_iconst (n := 125) k dX4_retell_124 rfl ?_
      refine v_zretU k (by decide) hq ?_ rfl dX4_retell_125
      have e9 : (b - 1) / 256 + 1 - kk = 0 := by omega
      refine ⟨true, C, wt, al, dn, ko, jpg ps, _, ?_, fun _ => ?_, hks, hal, hC, rfl, rfl⟩
      · rw [e2, e9]
        rfl
      · rw [e3, e9]
        simp [rtL]
    · have hkp : kk < pF (C0 0) := by
        have := pF_idx (d := C0 0) (i := b - 1) (by omega)
        omega
      have hwC := hag.dw hw hC
      have eD : pb C 0 (1 + kk) = pb C0 0 (1 + kk) := by rw [pb0, pb0]; exact hag.c0 (by omega)
      have hmr : (b - 1) / 256 + 1 - kk = ((b - 1) / 256 + 1 - (kk + 1)) + 1 := by omega
      refine v_aload_n (n := 24) k dX4_retell_23 rfl rfl ?_
      refine v_get (n := 27) k ciX4 0 0 (by decide) fl_X4_10 rfl rfl dX4_retell_24 rfl ?_
      refine v_iload (n := 29) k dX4_retell_27 rfl rfl ?_
      refine v_rdVi (n := 32) k [1, 2] 1 (z_X1_directoryPage hwC (kk := kk) e1 (by omega)) miX1_directoryPage ml_X4_218 (by decide) (by decide) rfl (by decide) rfl rfl rfl rfl (Nat.le_of_ble_eq_true rfl) ⟨Nat.zero_le _, Nat.zero_le _⟩ dX4_retell_29 rfl ?_
      refine v_istore (n := 34) k dX4_retell_32 rfl (by decide) rfl rfl ?_
      refine v_iload (n := 36) k dX4_retell_34 rfl rfl ?_
      refine v_sipush (n := 39) k dX4_retell_36 (by decide) rfl ?_
      refine v_imul (n := 40) k dX4_retell_39 rfl ?_
      refine v_istore (n := 42) k dX4_retell_40 rfl (by decide) rfl rfl ?_
      refine v_aload_n (n := 43) k dX4_retell_42 rfl rfl ?_
      refine v_get (n := 46) k ciX4 0 0 (by decide) fl_X4_10 rfl rfl dX4_retell_43 rfl ?_
      refine v_iload (n := 48) k dX4_retell_46 rfl rfl ?_
      refine v_aload_n (n := 49) k dX4_retell_48 rfl rfl ?_
      refine v_get (n := 52) k ciX4 0 2 (by decide) fl_X4_28 rfl rfl dX4_retell_49 rfl ?_
      refine v_upV (n := 55) k [1, 2, 5, 6] 1 (z_X1_read (p := pb C 0 (1 + kk)) rfl (dirp_lt hwC (by rw [hag.c0 (by omega)]; exact hkp)) w2) miX1_read ml_X4_250 (by decide) (by decide) rfl (by decide) rfl rfl rfl rfl (Nat.le_of_ble_eq_true rfl) ⟨Nat.zero_le _, Nat.zero_le _⟩ dX4_retell_52 rfl ?_
      rintro _ _ ⟨rfl, rfl⟩
      dsimp only [wput, List.set, Option.toList, List.nil_append, List.cons_append]
      refine v_iconst (n := 56) k dX4_retell_55 rfl ?_
      refine v_istore (n := 58) k dX4_retell_56 rfl (by decide) rfl rfl ?_
      refine v_cg 6 (fun j => iI ((rti C kk a b q 0 j : Nat) : Int)) rfl (fun j hj => by rw [rti_0 C kk a b q hj]) ?_
      refine lp_X4_retell_i k hq hA hB hQ hab hq256 hg (by omega) (kk := kk) (by omega) e1 ?_ 257 0 _ (by omega) (by omega) rfl
      refine v_cg 6 (fun j => iI ((rtp C0 kk a b q j : Nat) : Int)) rfl (fun j hj => by rw [rtp_agr hag hw hkp]) ?_
      refine v_aload_n (n := 101) k dX4_retell_100 rfl rfl ?_
      refine v_get (n := 104) k ciX4 0 1 (by decide) fl_X4_21 rfl rfl dX4_retell_101 rfl ?_
      refine v_aload_n (n := 105) k dX4_retell_104 rfl rfl ?_
      refine v_get (n := 108) k ciX4 0 2 (by decide) fl_X4_28 rfl rfl dX4_retell_105 rfl ?_
      refine v_iload (n := 110) k dX4_retell_108 rfl rfl ?_
      refine v_upV (n := 113) k [4, 1, 2, 3, 7, 8, 5, 6] 4 (z_X0_add (q := pb C 0 (1 + kk)) (ps := ps) rfl (hC _) (by omega) w2 hal hks) miX0_add ml_X4_227 (by decide) (by decide) rfl (by decide) rfl rfl rfl rfl (Nat.le_of_ble_eq_true rfl) ⟨Nat.zero_le _, Nat.zero_le _⟩ dX4_retell_110 rfl ?_
      rintro _ _ ⟨b1, C2, wt2, al2, dn2, ko2, hs1, hks1, hal1, rfl, rfl⟩
      dsimp only [wput, List.set, Option.toList, List.nil_append, List.cons_append]
      refine v_if_ne (n := 116) (t := 118) k (⟨by cases b1 <;> decide, by cases b1 <;> decide⟩) dX4_retell_113 (by decide) rfl (fun c_113 => ?_) (fun c_113 => ?_)
      · have hb9 : b1 = true := by
          cases b1 with
          | true => rfl
          | false => exact absurd rfl c_113
        subst hb9
        refine v_iinc (n := 121) k dX4_retell_118 rfl (by decide) rfl rfl rfl ?_
        refine v_goto (t := 16) k dX4_retell_121 (by decide) ?_
        refine v_lvf [(0, .ref hx), (1, .int (iI A)), (2, .int (iI B)), (3, .int (iI Q)), (4, .int (iI (((b - 1) / 256 : Nat) : Int))), (5, .int (iI (KI + 1)))] ⟨rfl, rfl, rfl, rfl, rfl, rfl, trivial⟩ ?_
        refine ih (kk + 1) _ _ _ _ _ _ _ _ (by omega) (by omega) (by omega) (hag.tr (sW_agr hs1 (by omega) (by omega))) (sW_lt hs1 hC (rtp_lt w3 hq256)) ?_ ?_ hks1 hal1 (by rw [List.length_append]; simp; omega)
        · rw [e2, hmr, rtL, sImg]
          rw [hs1, List.length_append]
          rfl
        · rw [e3, hmr, rtL, List.map_cons, eD, List.append_assoc]
          rfl
      · refine v_iconst (n := 117) k dX4_retell_116 rfl ?_
        refine v_zretU k (by decide) hq ?_ rfl dX4_retell_117
        have hb9 : b1 = false := by
          cases b1 with
          | false => rfl
          | true => exact absurd c_113 (by decide)
        subst hb9
        refine ⟨false, C2, wt2, al2, dn2, ko2, _, _, ?_, fun h => absurd h (by decide), hks1, hal1, sW_lt hs1 hC (rtp_lt w3 hq256), rfl, rfl⟩
        rw [e2, hmr, rtL, sImg]
        rw [hs1]
set_option maxHeartbeats 1000000 in
set_option maxRecDepth 20000 in
theorem z_X4_retell {D : va_G} {cI cB cJ cZ : ClassId} {hx hd hc hk hch hb hbb hh ht ha hj hi hjb : Nat} {an : Int} {pg lg : Nat} {K : Nat → Nat} {A B Q : Int} {a b q : Nat} {C : Nat → Nat} {wt al dn ko : Int} {fb : Nat → Nat} {ps : List Nat} (hA : A = (a : Int)) (hB : B = (b : Int)) (hQ : Q = (q : Int)) (hab : a < b) (hq256 : q < 256) (hw : DW C pg lg) (hb9 : b ≤ 2 ^ C 0) (hks : KS ko K C pg lg) (hal : in32 al) (hpl : ps.length + ((b - 1) / 256 + 1 - a / 256) ≤ lg) (hlp : lg + 4 ≤ pg) : ∀ l, Up l yX4_retell cX4_retell 9 (some .boolean) ({ frames := 4, cells := 0, slots := 0, locals := 107 }) D (TY cI cB cJ cZ) [.ref hx, .int (iI A), .int (iI B), .int (iI Q)] [oHash hx hd hch hb hh ht ha an, oDisk hd hc hk ko pg lg wt al dn, aN cI hc 65280 C, aN cI hk 255 K, oChange hch hd hj hi, oPage hb hbb, aN cI hbb 256 (fb), oPage hj hjb, aN cI hjb 256 (jpg ps)] (fun r w1 => ∃ b2 C2 wt2 al2 dn2 ko2 fj fb, sImg (C, wt, al, dn) ps.length (rtL C a b q ((b - 1) / 256 + 1 - a / 256) (a / 256)) = (b2, C2, wt2, al2, dn2) ∧ (b2 = true → fj = jpg (ps ++ (rtL C a b q ((b - 1) / 256 + 1 - a / 256) (a / 256)).map Prod.fst)) ∧ KS ko2 K C2 pg lg ∧ in32 al2 ∧ (∀ j, C2 j < 256) ∧ r = some (.int (iI (bI b2))) ∧ w1 = [oHash hx hd hch hb hh ht ha an, oDisk hd hc hk ko2 pg lg wt2 al2 dn2, aN cI hc 65280 C2, aN cI hk 255 K, oChange hch hd hj hi, oPage hb hbb, aN cI hbb 256 (fb), oPage hj hjb, aN cI hjb 256 (fj)]) := by
  intro l
  refine Up_of (by decide) (Nat.le_of_ble_eq_true rfl) (fun x k hq => ?_)
  obtain ⟨w1, w2, w3, w4, w5, w6, w7⟩ := id hw
  have hp15 : 2 ^ C 0 ≤ 32768 := Nat.le_trans (Nat.pow_le_pow_right (n := 2) (j := 15) (by decide) w4) (by decide)
  refine v_iload_n (n := 1) k dX4_retell_0 rfl rfl ?_
  refine v_iconst (n := 2) k dX4_retell_1 rfl ?_
  refine v_isub (n := 3) k dX4_retell_2 rfl ?_
  refine v_sipush (n := 6) k dX4_retell_3 (by decide) rfl ?_
  refine v_idiv (n := 7) k ((((b - 1) / 256 : Nat) : Int)) (ax_ne0 (by omega) (by omega)) (ax_div (by omega) rfl (by omega) (by omega) (by omega)) dX4_retell_6 rfl ?_
  refine v_istore (n := 9) k dX4_retell_7 rfl (by decide) rfl rfl ?_
  refine v_iload_n (n := 10) k dX4_retell_9 rfl rfl ?_
  refine v_sipush (n := 13) k dX4_retell_10 (by decide) rfl ?_
  refine v_idiv (n := 14) k (((a / 256 : Nat) : Int)) (ax_ne0 (by omega) (by omega)) (ax_div hA rfl (by omega) (by omega) (by omega)) dX4_retell_13 rfl ?_
  refine v_istore (n := 16) k dX4_retell_14 rfl (by decide) rfl rfl ?_
  exact lp_X4_retell (C0 := C) (a0 := (C, wt, al, dn)) (ps0 := ps) k hq hA hB hQ hab hq256 w2 hw hb9 hlp ((b - 1) / 256 + 2) (a / 256) _ _ _ _ _ _ _ _ (by omega) (by omega) rfl AGR.rf w3 rfl rfl hks hal hpl
