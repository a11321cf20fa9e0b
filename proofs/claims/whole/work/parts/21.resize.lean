def sChg (a : DA) (chs : List (Nat × (Nat → Nat))) : Bool × DA := match sImg a 0 chs with
  | (false, a') => (false, a')
  | (true, a') => sFin a' (chs.map Prod.fst)
/-- the free pages -/
def freeL (C : Nat → Nat) (pg lg : Nat) : List Nat := (List.range pg).filter (fun p => kdN C lg p == 0)
theorem freeL_asc (C : Nat → Nat) (pg lg : Nat) : (freeL C pg lg).Pairwise (· < ·) := List.Pairwise.filter _ List.pairwise_lt_range
theorem freeL_len (C : Nat → Nat) (lg n : Nat) : (freeL C n lg).length = cntK C lg 0 n := by
  induction n with
  | zero => rfl
  | succ n ih =>
    unfold freeL at ih ⊢
    rw [List.range_succ, List.filter_append, List.length_append, ih, cntK]
    by_cases h : kdN C lg n = 0
    · rw [if_pos h]
      simp [h]
    · rw [if_neg h]
      simp [h]
theorem freeL_mem {C : Nat → Nat} {pg lg t : Nat} (h : t < (freeL C pg lg).length) : (freeL C pg lg).getD t 0 < pg ∧ kdN C lg ((freeL C pg lg).getD t 0) = 0 := by
  have h1 : (freeL C pg lg).getD t 0 ∈ freeL C pg lg := by
    rw [List.getD_eq_getElem?_getD, List.getElem?_eq_getElem h]
    exact List.getElem_mem h
  have h2 := List.mem_filter.mp h1
  exact ⟨List.mem_range.mp h2.1, by simpa using h2.2⟩
/-- the next free page behind one: the next one in the list -/
theorem fr_next {C : Nat → Nat} {pg lg t a : Nat} (h : t < (freeL C pg lg).length) (ha : (t = 0 ∧ a = 0) ∨ (0 < t ∧ a = (freeL C pg lg).getD (t - 1) 0 + 1)) : frN C pg lg a = some ((freeL C pg lg).getD t 0) := by
  have asc := List.pairwise_iff_getElem.mp (freeL_asc C pg lg)
  have e1 : frN C pg lg a = (freeL C pg lg).find? (fun q => decide (a ≤ q)) := by
    unfold frN freeL
    rw [List.find?_filter]
    congr 1
    funext q
    rw [Bool.and_comm]
    simp
    rfl
  have e2 : (freeL C pg lg).getD t 0 = (freeL C pg lg)[t] := by rw [List.getD_eq_getElem?_getD, List.getElem?_eq_getElem h]; rfl
  rw [e1, e2, List.find?_eq_some_iff_getElem]
  refine ⟨decide_eq_true ?_, t, h, rfl, fun j hj => ?_⟩
  · rcases ha with ⟨-, ha⟩ | ⟨h0, ha⟩
    · omega
    · have e3 : (freeL C pg lg).getD (t - 1) 0 = (freeL C pg lg)[t - 1]'(by omega) := by rw [List.getD_eq_getElem?_getD, List.getElem?_eq_getElem (by omega)]; rfl
      have := asc (t - 1) t (by omega) h (by omega)
      omega
  · rcases ha with ⟨h0, -⟩ | ⟨h0, ha⟩
    · omega
    · have e3 : (freeL C pg lg).getD (t - 1) 0 = (freeL C pg lg)[t - 1]'(by omega) := by rw [List.getD_eq_getElem?_getD, List.getElem?_eq_getElem (by omega)]; rfl
      have h9 : ¬ a ≤ (freeL C pg lg)[j]'(by omega) := by
        rcases Nat.lt_or_ge j (t - 1) with g | g
        · have := asc j (t - 1) (by omega) (by omega) g
          omega
        · have : j = t - 1 := by omega
          subst this
          omega
      simp [h9]
/-- where page kk of a directory of depth q goes -/
def plN (C : Nat → Nat) (pg lg kk : Nat) : Nat := if kk < pF (C 0) then pb C 0 (1 + kk) else (freeL C pg lg).getD (kk - pF (C 0)) 0
def rzL (C : Nat → Nat) (pg lg q : Nat) : Nat → Nat → List (Nat × (Nat → Nat))
  | 0, _ => []
  | m + 1, kk => (plN C pg lg kk, dpg C q kk) :: rzL C pg lg q m (kk + 1)
def hdp (C : Nat → Nat) (pg lg q n : Nat) : Nat → Nat := fun j => if j = 0 then q else if j ≤ n then plN C pg lg (j - 1) else 0
theorem hdp_0 {C : Nat → Nat} {pg lg q : Nat} (h : q < 256) : upN (fun _ => 0) 0 (q % 256) = hdp C pg lg q 0 := by
  funext j
  unfold upN hdp
  by_cases e : j = 0
  · rw [if_pos e, if_pos e, Nat.mod_eq_of_lt h]
  · rw [if_neg e, if_neg e, if_neg (by omega)]
theorem hdp_s {C : Nat → Nat} {pg lg q n : Nat} (h : plN C pg lg n < 256) : upN (hdp C pg lg q n) (1 + n) (plN C pg lg n % 256) = hdp C pg lg q (n + 1) := by
  funext j
  unfold upN hdp
  by_cases e : j = 1 + n
  · subst e
    rw [if_pos rfl, if_neg (by omega), if_pos (by omega), Nat.mod_eq_of_lt h, show 1 + n - 1 = n by omega]
  · rw [if_neg e]
    by_cases e0 : j = 0
    · rw [if_pos e0, if_pos e0]
    · rw [if_neg e0, if_neg e0]
      by_cases e1 : j ≤ n
      · rw [if_pos e1, if_pos (by omega)]
      · rw [if_neg e1, if_neg (by omega)]
/-- the CHANGE of a DOUBLING or a HALVING -/
def rzC (C : Nat → Nat) (pg lg q : Nat) : List (Nat × (Nat → Nat)) := rzL C pg lg q (pF q) 0 ++ [(0, hdp C pg lg q (pF q))]
def sRes (a : DA) (pg lg q : Nat) : Int × DA := if cntK a.1 lg 0 pg + pF (a.1 0) < pF q then (1, a) else if lg < pF q + 1 then (2, a) else match sChg a (rzC a.1 pg lg q) with
  | (true, a') => (0, a')
  | (false, a') => (4, a')
theorem dpg_agr {lg pg : Nat} {C C' : Nat → Nat} (h : AGR lg C C') (hw : DW C pg lg) {q kk : Nat} (hq9 : q = C 0 + 1 ∨ q + 1 = C 0) : dpg C' q kk = dpg C q kk := by
  funext j
  have e0 : C' 0 = C 0 := h.c0 (by omega)
  unfold dpg dpi
  by_cases g : j < 256 ∧ kk * 256 + j < 2 ^ q
  · rw [if_pos g, if_pos g]
    unfold eN
    rw [e0]
    refine (h.HA hw).ent hw.2.2.2.1 ?_
    rcases hq9 with e | e
    · rw [if_pos (by omega)]
      have : 2 ^ q = 2 * 2 ^ C 0 := by rw [e, Nat.pow_succ]; omega
      omega
    · rw [if_neg (by omega)]
      have : 2 ^ C 0 = 2 * 2 ^ q := by rw [← e, Nat.pow_succ]; omega
      omega
  · rw [if_neg g, if_neg g]
theorem frI_agr {lg pg : Nat} {C C' : Nat → Nat} (h : AGR lg C C') (hw : DW C pg lg) (a : Nat) : frI C' pg lg a = frI C pg lg a := by
  have e : frN C' pg lg a = frN C pg lg a := by
    unfold frN
    congr 1
    funext p
    rw [(h.HA hw).kd hw.2.2.2.1]
  unfold frI
  rw [e]
theorem JV_of {ps : List Nat} {pg : Nat} (h1 : ps.length + 2 ≤ pg) (h2 : ∀ x ∈ ps, x < pg ∧ x ≠ 1) : JV (jpg ps) pg := by
  refine ⟨h1, fun i hi => ?_⟩
  have hi' : i < ps.length := hi
  have e : jpg ps (1 + i) = ps[i] := by
    unfold jpg
    rw [if_neg (by omega), show 1 + i - 1 = i by omega, List.getD_eq_getElem?_getD, List.getElem?_eq_getElem hi']
    rfl
  rw [e]
  exact h2 _ (List.getElem_mem hi')
theorem rzL_fst (C : Nat → Nat) (pg lg q m kk : Nat) : ∀ x ∈ (rzL C pg lg q m kk).map Prod.fst, ∃ t, kk ≤ t ∧ t < kk + m ∧ x = plN C pg lg t := by
  induction m generalizing kk with
  | zero => intro x hx; simp [rzL] at hx
  | succ m ih =>
    intro x hx
    rw [rzL, List.map_cons] at hx
    rcases List.mem_cons.mp hx with e | hx
    · exact ⟨kk, by omega, by omega, e⟩
    · obtain ⟨t, h1, h2, h3⟩ := ih (kk + 1) x hx
      exact ⟨t, by omega, by omega, h3⟩
theorem rzL_len (C : Nat → Nat) (pg lg q m kk : Nat) : (rzL C pg lg q m kk).length = m := by
  induction m generalizing kk with
  | zero => rfl
  | succ m ih => rw [rzL, List.length_cons, ih]
/-- such a place is behind the images, and on the disk -/
theorem plN_in {C : Nat → Nat} {pg lg q kk : Nat} (hw : DW C pg lg) (hk : kk < pF q) (hc : pF q ≤ cntK C lg 0 pg + pF (C 0)) : lg + 2 ≤ plN C pg lg kk ∧ plN C pg lg kk < pg := by
  unfold plN
  by_cases h : kk < pF (C 0)
  · rw [if_pos h, pb0]
    exact ⟨hw.2.2.2.2.2.1 kk h, hw.2.2.2.2.1 kk h⟩
  · rw [if_neg h]
    have h1 : kk - pF (C 0) < (freeL C pg lg).length := by rw [freeL_len]; omega
    obtain ⟨h2, h3⟩ := freeL_mem h1
    refine ⟨?_, h2⟩
    generalize (freeL C pg lg).getD (kk - pF (C 0)) 0 = x at h2 h3
    unfold kdN at h3
    rcases Nat.lt_or_ge x (lg + 2) with g | g
    · exfalso
      by_cases e0 : x = 0
      · rw [if_pos e0] at h3; omega
      · rw [if_neg e0] at h3
        by_cases e1 : x = 1
        · rw [if_pos e1] at h3; omega
        · rw [if_neg e1, if_pos g] at h3; omega
    · exact g
theorem sImg_1 (a : DA) (i p : Nat) (f : Nat → Nat) : sImg a i [(p, f)] = sW a (2 + i) f := by
  unfold sImg
  cases h : sW a (2 + i) (p, f).2 with
  | mk b a' =>
    cases b <;> rfl
theorem dpg_lt {C : Nat → Nat} {q kk : Nat} (hC : ∀ j, C j < 256) : ∀ j, j < 256 → dpg C q kk j < 256 := by
  intro j _
  unfold dpg dpi
  split
  · exact hC _
  · decide
set_option maxHeartbeats 1000000 in
set_option maxRecDepth 20000 in
theorem lp_X4_resize {D : va_G} {cI cB cJ cZ : ClassId} {x : Kx} {hx hd hc hk hch hb hbb hh hhb ht ha hj hi hjb hib : Nat} {an : Int} {pg lg : Nat} {QI : Int} {q : Nat} {C0 : Nat → Nat} {wt0 al0 dn0 : Int} (k : Kf x cX4_resizeDirectory 7 yX4_resizeDirectory.cls (some .int) D (TY cI cB cJ cZ) ({ frames := 5, cells := 0, slots := 0, locals := 126 })) (hq : isU x D [hx, hd, hc, hk, hch, hb, hbb, hh, hhb, hj, hjb, hi, hib] (fun r w1 => ∃ s2 C2 wt2 al2 dn2 ko2 K2 fb fh fj fi, sRes (C0, wt0, al0, dn0) pg lg q = (s2, C2, wt2, al2, dn2) ∧ KS ko2 K2 C2 pg lg ∧ in32 al2 ∧ r = some (.int (iI s2)) ∧ w1 = [oHash hx hd hch hb hh ht ha an, oDisk hd hc hk ko2 pg lg wt2 al2 dn2, aN cI hc 65280 C2, aN cI hk 255 K2, oChange hch hd hj hi, oPage hb hbb, aN cI hbb 256 (fb), oPage hh hhb, aN cI hhb 256 (fh), oPage hj hjb, aN cI hjb 256 (fj), oPage hi hib, aN cI hib 256 (fi)])) (hw : DW C0 pg lg) (hlp : lg + 4 ≤ pg) (hQI : QI = (q : Int)) (hq9 : q = C0 0 + 1 ∨ q + 1 = C0 0) (hq15 : q ≤ 15) (hc1 : pF q ≤ cntK C0 lg 0 pg + pF (C0 0)) (hc2 : pF q + 1 ≤ lg) : ∀ (m : Nat) (kk : Nat) (KI FR : Int) (C : Nat → Nat) (wt al dn ko : Int) (K fb fi : Nat → Nat) (ps : List Nat), pF q < kk + m → kk ≤ pF q → KI = (kk : Int) → AGR lg C0 C → (∀ j, C j < 256) → sImg (C0, wt0, al0, dn0) 0 (rzC C0 pg lg q) = sImg (C, wt, al, dn) ps.length (rzL C0 pg lg q (pF q - kk) kk ++ [(0, hdp C0 pg lg q (pF q))]) → (rzC C0 pg lg q).map Prod.fst = ps ++ (rzL C0 pg lg q (pF q - kk) kk ++ [(0, hdp C0 pg lg q (pF q))]).map Prod.fst → KS ko K C pg lg → in32 al → ps.length = kk → ((kk ≤ pF (C0 0) ∧ FR = -1) ∨ (pF (C0 0) < kk ∧ FR = (((freeL C0 pg lg).getD (kk - pF (C0 0) - 1) 0 : Nat) : Int))) → Vw x 7 (fun q => q ∈ [hx, hd, hc, hk, hch, hb, hbb, hh, hhb, hj, hjb, hi, hib]) D true 0 0 [oHash hx hd hch hb hh ht ha an, oDisk hd hc hk ko pg lg wt al dn, aN cI hc 65280 C, aN cI hk 255 K, oChange hch hd hj hi, oPage hb hbb, aN cI hbb 256 (fb), oPage hh hhb, aN cI hhb 256 (hdp C0 pg lg q kk), oPage hj hjb, aN cI hjb 256 (jpg ps), oPage hi hib, aN cI hib 256 (fi)] 76 [(0, .ref hx), (1, .int (iI QI)), (2, .int (iI ((pF (C0 0) : Nat) : Int))), (3, .int (iI ((pF q : Nat) : Int))), (4, .int (iI FR)), (5, .int (iI KI))] [] := by
  intro m
  induction m with
  | zero => intro kk KI FR C wt al dn ko K fb fi ps hm hk9 e1 hag hC e2 e3 hks hal hpl hfr; omega
  | succ m ih =>
    intro kk KI FR C wt al dn ko K fb fi ps hm hk9 e1 hag hC e2 e3 hks hal hpl hfr
    obtain ⟨w1, w2, w3, w4, w5, w6, w7⟩ := id hw
    have h7 := pF_lt hq15
    have h8 := pF_lt w4
    have hwC := hag.dw hw hC
    have e0 : C 0 = C0 0 := hag.c0 (by omega)
    refine v_iload (n := 78) k dX4_resizeDirectory_76 rfl rfl ?_
    refine v_iload_n (n := 79) k dX4_resizeDirectory_78 rfl rfl ?_
    refine v_icmp_ge (n := 82) (t := 158) k (⟨by omega, by omega⟩) (⟨by omega, by omega⟩) dX4_resizeDirectory_79 (by decide) rfl (fun c_79 => ?_) (fun c_79 => ?_)
    · have e9 : kk = pF q := by omega
      subst e9
      have e2b : sImg (C0, wt0, al0, dn0) 0 (rzC C0 pg lg q) = sW (C, wt, al, dn) (2 + ps.length) (hdp C0 pg lg q (pF q)) := by
        rw [e2, Nat.sub_self]
        exact sImg_1 _ _ _ _
      have e3b : (rzC C0 pg lg q).map Prod.fst = ps ++ [0] := by
        rw [e3, Nat.sub_self]
        rfl
      refine v_aload_n (n := 159) k dX4_resizeDirectory_158 rfl rfl ?_
      refine v_get (n := 162) k ciX4 0 1 (by decide) fl_X4_21 rfl rfl dX4_resizeDirectory_159 rfl ?_
      refine v_aload_n (n := 163) k dX4_resizeDirectory_162 rfl rfl ?_
      refine v_get (n := 166) k ciX4 0 3 (by decide) fl_X4_32 rfl rfl dX4_resizeDirectory_163 rfl ?_
      refine v_iconst (n := 167) k dX4_resizeDirectory_166 rfl ?_
      refine v_upV (n := 170) k [4, 1, 2, 3, 9, 10, 7, 8] 4 (z_X0_add (q := 0) (ps := ps) rfl (by omega) (by omega) w2 hal hks) miX0_add ml_X4_227 (by decide) (by decide) rfl (by decide) rfl rfl rfl rfl (Nat.le_of_ble_eq_true rfl) ⟨Nat.zero_le _, Nat.zero_le _⟩ dX4_resizeDirectory_167 rfl ?_
      rintro _ _ ⟨b1, C2, wt2, al2, dn2, ko3, hs1, hks1, hal1, rfl, rfl⟩
      dsimp only [wput, List.set, Option.toList, List.nil_append, List.cons_append]
      refine v_if_eq (n := 173) (t := 187) k (⟨by cases b1 <;> decide, by cases b1 <;> decide⟩) dX4_resizeDirectory_170 (by decide) rfl (fun c_170 => ?_) (fun c_170 => ?_)
      · refine v_iconst (n := 188) k dX4_resizeDirectory_187 rfl ?_
        refine v_iretU k hq ?_ rfl dX4_resizeDirectory_188
        have hb9 : b1 = false := by
          cases b1 with
          | false => rfl
          | true => exact absurd c_170 (by decide)
        subst hb9
        refine ⟨4, C2, wt2, al2, dn2, ko3, _, _, _, _, _, ?_, hks1, hal1, rfl, rfl⟩
        rw [show sRes (C0, wt0, al0, dn0) pg lg q = match sChg (C0, wt0, al0, dn0) (rzC C0 pg lg q) with
            | (true, a') => (0, a')
            | (false, a') => (4, a') from by
          unfold sRes
          rw [if_neg (show ¬ cntK C0 lg 0 pg + pF (C0 0) < pF q by omega), if_neg (show ¬ lg < pF q + 1 by omega)]]
        unfold sChg
        rw [e2b, hs1]
      · have hb9 : b1 = true := by
          cases b1 with
          | true => rfl
          | false => exact absurd rfl c_170
        subst hb9
        have hJ9 : JV (jpg (ps ++ [0])) pg := by
          refine JV_of (by simp; omega) (fun x hx => ?_)
          rw [← e3b, rzC, List.map_append] at hx
          rcases List.mem_append.mp hx with h | h
          · obtain ⟨t, t1, t2, t3⟩ := rzL_fst _ _ _ _ _ _ x h
            have := plN_in (q := q) (kk := t) hw (by omega) hc1
            omega
          · simp at h
            omega
        refine v_aload_n (n := 174) k dX4_resizeDirectory_173 rfl rfl ?_
        refine v_get (n := 177) k ciX4 0 1 (by decide) fl_X4_21 rfl rfl dX4_resizeDirectory_174 rfl ?_
        refine v_upV (n := 180) k [4, 1, 2, 3, 9, 10, 11, 12] 4 (z_X0_finish (ps := ps ++ [0]) hJ9 w2 hks1 hal1) miX0_finish ml_X4_231 (by decide) (by decide) rfl (by decide) rfl rfl rfl rfl (Nat.le_of_ble_eq_true rfl) ⟨Nat.zero_le _, Nat.zero_le _⟩ dX4_resizeDirectory_177 rfl ?_
        rintro _ _ ⟨b2, C3, wt3, al3, dn3, ko4, fj3, fi3, hs2, hks2, hal2, rfl, rfl⟩
        dsimp only [wput, List.set, Option.toList, List.nil_append, List.cons_append]
        refine v_if_eq (n := 183) (t := 187) k (⟨by cases b2 <;> decide, by cases b2 <;> decide⟩) dX4_resizeDirectory_180 (by decide) rfl (fun c_180 => ?_) (fun c_180 => ?_)
        · refine v_iconst (n := 188) k dX4_resizeDirectory_187 rfl ?_
          refine v_iretU k hq ?_ rfl dX4_resizeDirectory_188
          have hb9 : b2 = false := by
            cases b2 with
            | false => rfl
            | true => exact absurd c_180 (by decide)
          subst hb9
          refine ⟨4, C3, wt3, al3, dn3, ko4, _, _, _, _, _, ?_, hks2, hal2, rfl, rfl⟩
          rw [show sRes (C0, wt0, al0, dn0) pg lg q = match sChg (C0, wt0, al0, dn0) (rzC C0 pg lg q) with
              | (true, a') => (0, a')
              | (false, a') => (4, a') from by
            unfold sRes
            rw [if_neg (show ¬ cntK C0 lg 0 pg + pF (C0 0) < pF q by omega), if_neg (show ¬ lg < pF q + 1 by omega)]]
          unfold sChg
          rw [e2b, hs1, e3b]
          show (match sFin (C2, wt2, al2, dn2) (ps ++ [0]) with
            | (true, a') => ((0 : Int), a')
            | (false, a') => (4, a')) = _
          rw [hs2]
        · refine v_iconst (n := 184) k dX4_resizeDirectory_183 rfl ?_
          refine v_goto (t := 188) k dX4_resizeDirectory_184 (by decide) ?_
          refine v_iretU k hq ?_ rfl dX4_resizeDirectory_188
          have hb9 : b2 = true := by
            cases b2 with
            | true => rfl
            | false => exact absurd rfl c_180
          subst hb9
          refine ⟨0, C3, wt3, al3, dn3, ko4, _, _, _, _, _, ?_, hks2, hal2, rfl, rfl⟩
          rw [show sRes (C0, wt0, al0, dn0) pg lg q = match sChg (C0, wt0, al0, dn0) (rzC C0 pg lg q) with
              | (true, a') => (0, a')
              | (false, a') => (4, a') from by
            unfold sRes
            rw [if_neg (show ¬ cntK C0 lg 0 pg + pF (C0 0) < pF q by omega), if_neg (show ¬ lg < pF q + 1 by omega)]]
          unfold sChg
          rw [e2b, hs1, e3b]
          show (match sFin (C2, wt2, al2, dn2) (ps ++ [0]) with
            | (true, a') => ((0 : Int), a')
            | (false, a') => (4, a')) = _
          rw [hs2]
    · have eD : pb C 0 (1 + kk) = pb C0 0 (1 + kk) := by rw [pb0, pb0]; exact hag.c0 (by omega)
      have hmr : pF q - kk = (pF q - (kk + 1)) + 1 := by omega
      have hpi := plN_in (q := q) (kk := kk) hw (by omega) hc1
      refine v_aload_n (n := 83) k dX4_resizeDirectory_82 rfl rfl ?_
      refine v_get (n := 86) k ciX4 0 0 (by decide) fl_X4_10 rfl rfl dX4_resizeDirectory_83 rfl ?_
      refine v_iload (n := 88) k dX4_resizeDirectory_86 rfl rfl ?_
      refine v_rdVi (n := 91) k [1, 2] 1 (z_X1_directoryPage hwC (kk := kk) e1 (by omega)) miX1_directoryPage ml_X4_218 (by decide) (by decide) rfl (by decide) rfl rfl rfl rfl (Nat.le_of_ble_eq_true rfl) ⟨Nat.zero_le _, Nat.zero_le _⟩ dX4_resizeDirectory_88 rfl ?_
      rw [eD]
      refine v_istore (n := 93) k dX4_resizeDirectory_91 rfl (by decide) rfl rfl ?_
      refine v_iload (n := 95) k dX4_resizeDirectory_93 rfl rfl ?_
      refine v_iload_n (n := 96) k dX4_resizeDirectory_95 rfl rfl ?_
      refine v_icmp_lt (n := 99) (t := 114) k (⟨by omega, by omega⟩) (⟨by omega, by omega⟩) dX4_resizeDirectory_96 (by decide) rfl (fun c_96 => ?_) (fun c_96 => ?_)
      · have hpl9 : pb C0 0 (1 + kk) = plN C0 pg lg kk := by unfold plN; rw [if_pos (by omega)]
        rw [hpl9]
        refine v_aload_n (n := 115) k dX4_resizeDirectory_114 rfl rfl ?_
        refine v_get (n := 118) k ciX4 0 3 (by decide) fl_X4_32 rfl rfl dX4_resizeDirectory_115 rfl ?_
        refine v_iconst (n := 119) k dX4_resizeDirectory_118 rfl ?_
        refine v_iload (n := 121) k dX4_resizeDirectory_119 rfl rfl ?_
        refine v_iadd (n := 122) k dX4_resizeDirectory_121 rfl ?_
        refine v_iload (n := 124) k dX4_resizeDirectory_122 rfl rfl ?_
        refine v_upV (n := 127) k [7, 8] 7 (z_X2_set (i := 1 + kk) (v := plN C0 pg lg kk) (by omega) rfl (by omega)) miX2_set ml_X4_215 (by decide) (by decide) rfl (by decide) rfl rfl rfl rfl (Nat.le_of_ble_eq_true rfl) ⟨Nat.zero_le _, Nat.zero_le _⟩ dX4_resizeDirectory_124 rfl ?_
        rw [hdp_s (by omega)]
        rintro _ _ ⟨rfl, rfl⟩
        dsimp only [wput, List.set, Option.toList, List.nil_append, List.cons_append]
        refine v_aload_n (n := 128) k dX4_resizeDirectory_127 rfl rfl ?_
        refine v_iload (n := 130) k dX4_resizeDirectory_128 rfl rfl ?_
        refine v_iload_n (n := 131) k dX4_resizeDirectory_130 rfl rfl ?_
        refine v_upV (n := 134) k [0, 1, 2, 5, 6] 0 (z_X4_buildDirectoryPage hwC (kk := kk) (q := q) e1 hQI (by rw [e0]; exact hq9) hq15 (by omega)) miX4_buildDirectoryPage ml_X4_224 (by decide) (by decide) rfl (by decide) rfl rfl rfl rfl (Nat.le_of_ble_eq_true rfl) ⟨Nat.zero_le _, Nat.zero_le _⟩ dX4_resizeDirectory_131 rfl ?_
        rw [dpg_agr hag hw hq9]
        rintro _ _ ⟨rfl, rfl⟩
        dsimp only [wput, List.set, Option.toList, List.nil_append, List.cons_append]
        refine v_aload_n (n := 135) k dX4_resizeDirectory_134 rfl rfl ?_
        refine v_get (n := 138) k ciX4 0 1 (by decide) fl_X4_21 rfl rfl dX4_resizeDirectory_135 rfl ?_
        refine v_aload_n (n := 139) k dX4_resizeDirectory_138 rfl rfl ?_
        refine v_get (n := 142) k ciX4 0 2 (by decide) fl_X4_28 rfl rfl dX4_resizeDirectory_139 rfl ?_
        refine v_iload (n := 144) k dX4_resizeDirectory_142 rfl rfl ?_
        refine v_upV (n := 147) k [4, 1, 2, 3, 9, 10, 5, 6] 4 (z_X0_add (q := plN C0 pg lg kk) (ps := ps) rfl (by omega) (by omega) w2 hal hks) miX0_add ml_X4_227 (by decide) (by decide) rfl (by decide) rfl rfl rfl rfl (Nat.le_of_ble_eq_true rfl) ⟨Nat.zero_le _, Nat.zero_le _⟩ dX4_resizeDirectory_144 rfl ?_
        rintro _ _ ⟨b1, C2, wt2, al2, dn2, ko3, hs1, hks1, hal1, rfl, rfl⟩
        dsimp only [wput, List.set, Option.toList, List.nil_append, List.cons_append]
        refine v_if_ne (n := 150) (t := 152) k (⟨by cases b1 <;> decide, by cases b1 <;> decide⟩) dX4_resizeDirectory_147 (by decide) rfl (fun c_147 => ?_) (fun c_147 => ?_)
        · have hb9 : b1 = true := by
            cases b1 with
            | true => rfl
            | false => exact absurd rfl c_147
          subst hb9
          refine v_iinc (n := 155) k dX4_resizeDirectory_152 rfl (by decide) rfl rfl rfl ?_
          refine v_goto (t := 76) k dX4_resizeDirectory_155 (by decide) ?_
          refine v_lvf [(0, .ref hx), (1, .int (iI QI)), (2, .int (iI ((pF (C0 0) : Nat) : Int))), (3, .int (iI ((pF q : Nat) : Int))), (4, .int (iI FR)), (5, .int (iI (KI + 1)))] ⟨rfl, rfl, rfl, rfl, rfl, rfl, trivial⟩ ?_
          refine ih (kk + 1) _ _ _ _ _ _ _ _ _ _ _ (by omega) (by omega) (by omega) (hag.tr (sW_agr hs1 (by omega) (by omega))) (sW_lt hs1 hC (dpg_lt w3)) ?_ ?_ hks1 hal1 (by simp [hpl]) (Or.inl ⟨by omega, by omega⟩)
          · rw [e2, hmr, rzL, List.cons_append, sImg]
            rw [hs1, List.length_append]
            rfl
          · rw [e3, hmr, rzL, List.cons_append, List.map_cons, List.append_assoc]
            rfl
        · refine v_iconst (n := 151) k dX4_resizeDirectory_150 rfl ?_
          refine v_iretU k hq ?_ rfl dX4_resizeDirectory_151
          have hb9 : b1 = false := by
            cases b1 with
            | false => rfl
            | true => exact absurd c_147 (by decide)
          subst hb9
          refine ⟨4, C2, wt2, al2, dn2, ko3, _, _, _, _, _, ?_, hks1, hal1, rfl, rfl⟩
          rw [show sRes (C0, wt0, al0, dn0) pg lg q = match sChg (C0, wt0, al0, dn0) (rzC C0 pg lg q) with
              | (true, a') => (0, a')
              | (false, a') => (4, a') from by
            unfold sRes
            rw [if_neg (show ¬ cntK C0 lg 0 pg + pF (C0 0) < pF q by omega), if_neg (show ¬ lg < pF q + 1 by omega)]]
          unfold sChg
          rw [e2, hmr, rzL, List.cons_append, sImg]
          rw [hs1]
      · obtain ⟨af, haf, hfr2⟩ : ∃ af : Nat, FR + 1 = (af : Int) ∧ ((kk - pF (C0 0) = 0 ∧ af = 0) ∨ (0 < kk - pF (C0 0) ∧ af = (freeL C0 pg lg).getD (kk - pF (C0 0) - 1) 0 + 1)) := by
          rcases hfr with ⟨h1, h2⟩ | ⟨h1, h2⟩
          · exact ⟨0, by omega, Or.inl ⟨by omega, rfl⟩⟩
          · exact ⟨(freeL C0 pg lg).getD (kk - pF (C0 0) - 1) 0 + 1, by omega, Or.inr ⟨by omega, rfl⟩⟩
        have hfl : kk - pF (C0 0) < (freeL C0 pg lg).length := by rw [freeL_len]; omega
        have hfm := freeL_mem hfl
        have hafp : af ≤ pg := by
          rcases hfr2 with ⟨-, h⟩ | ⟨h1, h⟩
          · omega
          · have := (freeL_mem (C := C0) (pg := pg) (lg := lg) (t := kk - pF (C0 0) - 1) (by omega)).1
            omega
        have hnx : frI C0 pg lg af = ((plN C0 pg lg kk : Nat) : Int) := by
          unfold frI plN
          rw [fr_next hfl hfr2, if_neg (by omega)]
        refine v_aload_n (n := 100) k dX4_resizeDirectory_99 rfl rfl ?_
        refine v_get (n := 103) k ciX4 0 0 (by decide) fl_X4_10 rfl rfl dX4_resizeDirectory_100 rfl ?_
        refine v_iload (n := 105) k dX4_resizeDirectory_103 rfl rfl ?_
        refine v_upV (n := 108) k [1, 2, 3] 1 (z_X1_freeBehind hwC (by omega) (a := af) haf hafp hks) miX1_freeBehind ml_X4_221 (by decide) (by decide) rfl (by decide) rfl rfl rfl rfl (Nat.le_of_ble_eq_true rfl) ⟨Nat.zero_le _, Nat.zero_le _⟩ dX4_resizeDirectory_105 rfl ?_
        rw [frI_agr hag hw, hnx]
        rintro _ _ ⟨rfl, ko2, K2, hks2, rfl⟩
        dsimp only [wput, List.set, Option.toList, List.nil_append, List.cons_append]
        refine v_istore (n := 110) k dX4_resizeDirectory_108 rfl (by decide) rfl rfl ?_
        refine v_iload (n := 112) k dX4_resizeDirectory_110 rfl rfl ?_
        refine v_istore (n := 114) k dX4_resizeDirectory_112 rfl (by decide) rfl rfl ?_
        refine v_aload_n (n := 115) k dX4_resizeDirectory_114 rfl rfl ?_
        refine v_get (n := 118) k ciX4 0 3 (by decide) fl_X4_32 rfl rfl dX4_resizeDirectory_115 rfl ?_
        refine v_iconst (n := 119) k dX4_resizeDirectory_118 rfl ?_
        refine v_iload (n := 121) k dX4_resizeDirectory_119 rfl rfl ?_
        refine v_iadd (n := 122) k dX4_resizeDirectory_121 rfl ?_
        refine v_iload (n := 124) k dX4_resizeDirectory_122 rfl rfl ?_
        refine v_upV (n := 127) k [7, 8] 7 (z_X2_set (i := 1 + kk) (v := plN C0 pg lg kk) (by omega) rfl (by omega)) miX2_set ml_X4_215 (by decide) (by decide) rfl (by decide) rfl rfl rfl rfl (Nat.le_of_ble_eq_true rfl) ⟨Nat.zero_le _, Nat.zero_le _⟩ dX4_resizeDirectory_124 rfl ?_
        rw [hdp_s (by omega)]
        rintro _ _ ⟨rfl, rfl⟩
        dsimp only [wput, List.set, Option.toList, List.nil_append, List.cons_append]
        refine v_aload_n (n := 128) k dX4_resizeDirectory_127 rfl rfl ?_
        refine v_iload (n := 130) k dX4_resizeDirectory_128 rfl rfl ?_
        refine v_iload_n (n := 131) k dX4_resizeDirectory_130 rfl rfl ?_
        refine v_upV (n := 134) k [0, 1, 2, 5, 6] 0 (z_X4_buildDirectoryPage hwC (kk := kk) (q := q) e1 hQI (by rw [e0]; exact hq9) hq15 (by omega)) miX4_buildDirectoryPage ml_X4_224 (by decide) (by decide) rfl (by decide) rfl rfl rfl rfl (Nat.le_of_ble_eq_true rfl) ⟨Nat.zero_le _, Nat.zero_le _⟩ dX4_resizeDirectory_131 rfl ?_
        rw [dpg_agr hag hw hq9]
        rintro _ _ ⟨rfl, rfl⟩
        dsimp only [wput, List.set, Option.toList, List.nil_append, List.cons_append]
        refine v_aload_n (n := 135) k dX4_resizeDirectory_134 rfl rfl ?_
        refine v_get (n := 138) k ciX4 0 1 (by decide) fl_X4_21 rfl rfl dX4_resizeDirectory_135 rfl ?_
        refine v_aload_n (n := 139) k dX4_resizeDirectory_138 rfl rfl ?_
        refine v_get (n := 142) k ciX4 0 2 (by decide) fl_X4_28 rfl rfl dX4_resizeDirectory_139 rfl ?_
        refine v_iload (n := 144) k dX4_resizeDirectory_142 rfl rfl ?_
        refine v_upV (n := 147) k [4, 1, 2, 3, 9, 10, 5, 6] 4 (z_X0_add (q := plN C0 pg lg kk) (ps := ps) rfl (by omega) (by omega) w2 hal hks2) miX0_add ml_X4_227 (by decide) (by decide) rfl (by decide) rfl rfl rfl rfl (Nat.le_of_ble_eq_true rfl) ⟨Nat.zero_le _, Nat.zero_le _⟩ dX4_resizeDirectory_144 rfl ?_
        rintro _ _ ⟨b1, C2, wt2, al2, dn2, ko3, hs1, hks1, hal1, rfl, rfl⟩
        dsimp only [wput, List.set, Option.toList, List.nil_append, List.cons_append]
        refine v_if_ne (n := 150) (t := 152) k (⟨by cases b1 <;> decide, by cases b1 <;> decide⟩) dX4_resizeDirectory_147 (by decide) rfl (fun c_147 => ?_) (fun c_147 => ?_)
        · have hb9 : b1 = true := by
            cases b1 with
            | true => rfl
            | false => exact absurd rfl c_147
          subst hb9
          refine v_iinc (n := 155) k dX4_resizeDirectory_152 rfl (by decide) rfl rfl rfl ?_
          refine v_goto (t := 76) k dX4_resizeDirectory_155 (by decide) ?_
          refine v_lvf [(0, .ref hx), (1, .int (iI QI)), (2, .int (iI ((pF (C0 0) : Nat) : Int))), (3, .int (iI ((pF q : Nat) : Int))), (4, .int (iI ((plN C0 pg lg kk : Nat) : Int))), (5, .int (iI (KI + 1)))] ⟨rfl, rfl, rfl, rfl, rfl, rfl, trivial⟩ ?_
          refine ih (kk + 1) _ _ _ _ _ _ _ _ _ _ _ (by omega) (by omega) (by omega) (hag.tr (sW_agr hs1 (by omega) (by omega))) (sW_lt hs1 hC (dpg_lt w3)) ?_ ?_ hks1 hal1 (by simp [hpl]) (Or.inr ⟨by omega, by
            unfold plN
            rw [if_neg (by omega), show kk + 1 - pF (C0 0) - 1 = kk - pF (C0 0) by omega]⟩)
          · rw [e2, hmr, rzL, List.cons_append, sImg]
            rw [hs1, List.length_append]
            rfl
          · rw [e3, hmr, rzL, List.cons_append, List.map_cons, List.append_assoc]
            rfl
        · refine v_iconst (n := 151) k dX4_resizeDirectory_150 rfl ?_
          refine v_iretU k hq ?_ rfl dX4_resizeDirectory_151
          have hb9 : b1 = false := by
            cases b1 with
            | false => rfl
            | true => exact absurd c_147 (by decide)
          subst hb9
          refine ⟨4, C2, wt2, al2, dn2, ko3, _, _, _, _, _, ?_, hks1, hal1, rfl, rfl⟩
          rw [show sRes (C0, wt0, al0, dn0) pg lg q = match sChg (C0, wt0, al0, dn0) (rzC C0 pg lg q) with
              | (true, a') => (0, a')
              | (false, a') => (4, a') from by
            unfold sRes
            rw [if_neg (show ¬ cntK C0 lg 0 pg + pF (C0 0) < pF q by omega), if_neg (show ¬ lg < pF q + 1 by omega)]]
          unfold sChg
          rw [e2, hmr, rzL, List.cons_append, sImg]
          rw [hs1]
set_option maxHeartbeats 1000000 in
set_option maxRecDepth 20000 in
theorem z_X4_resizeDirectory {D : va_G} {cI cB cJ cZ : ClassId} {hx hd hc hk hch hb hbb hh hhb ht ha hj hi hjb hib : Nat} {an : Int} {pg lg : Nat} {QI : Int} {q : Nat} {C : Nat → Nat} {wt al dn ko : Int} {K fb fh fj fi : Nat → Nat} (hw : DW C pg lg) (hlp : lg + 4 ≤ pg) (hQI : QI = (q : Int)) (hq9 : q = C 0 + 1 ∨ q + 1 = C 0) (hq15 : q ≤ 15) (hks : KS ko K C pg lg) (hal : in32 al) : ∀ l, Up l yX4_resizeDirectory cX4_resizeDirectory 7 (some .int) ({ frames := 5, cells := 0, slots := 0, locals := 126 }) D (TY cI cB cJ cZ) [.ref hx, .int (iI QI)] [oHash hx hd hch hb hh ht ha an, oDisk hd hc hk ko pg lg wt al dn, aN cI hc 65280 C, aN cI hk 255 K, oChange hch hd hj hi, oPage hb hbb, aN cI hbb 256 (fb), oPage hh hhb, aN cI hhb 256 (fh), oPage hj hjb, aN cI hjb 256 (fj), oPage hi hib, aN cI hib 256 (fi)] (fun r w1 => ∃ s2 C2 wt2 al2 dn2 ko2 K2 fb fh fj fi, sRes (C, wt, al, dn) pg lg q = (s2, C2, wt2, al2, dn2) ∧ KS ko2 K2 C2 pg lg ∧ in32 al2 ∧ r = some (.int (iI s2)) ∧ w1 = [oHash hx hd hch hb hh ht ha an, oDisk hd hc hk ko2 pg lg wt2 al2 dn2, aN cI hc 65280 C2, aN cI hk 255 K2, oChange hch hd hj hi, oPage hb hbb, aN cI hbb 256 (fb), oPage hh hhb, aN cI hhb 256 (fh), oPage hj hjb, aN cI hjb 256 (fj), oPage hi hib, aN cI hib 256 (fi)]) := by
  intro l
  refine Up_of (by decide) (Nat.le_of_ble_eq_true rfl) (fun x k hq => ?_)
  obtain ⟨w1, w2, w3, w4, w5, w6, w7⟩ := id hw
  have h7 := pF_lt hq15
  have h8 := pF_lt w4
  have hck := cntK_le C lg 0 pg
  refine v_aload_n (n := 1) k dX4_resizeDirectory_0 rfl rfl ?_
  refine v_get (n := 4) k ciX4 0 0 (by decide) fl_X4_10 rfl rfl dX4_resizeDirectory_1 rfl ?_
  refine v_rdVi (n := 7) k [1, 2] 1 (z_X1_depth hw) miX1_depth ml_X4_160 (by decide) (by decide) rfl (by decide) rfl rfl rfl rfl (Nat.le_of_ble_eq_true rfl) ⟨Nat.zero_le _, Nat.zero_le _⟩ dX4_resizeDirectory_4 rfl ?_
  refine v_rdSi (n := 10) k [] (z_X4_pagesFor (d := C 0) rfl (by omega)) miX4_pagesFor ml_X4_206 (by decide) (by decide) rfl (by decide) rfl rfl (Nat.le_of_ble_eq_true rfl) ⟨Nat.zero_le _, Nat.zero_le _⟩ dX4_resizeDirectory_7 rfl ?_
  refine v_istore_n (n := 11) k dX4_resizeDirectory_10 rfl (by decide) rfl rfl ?_
  refine v_iload_n (n := 12) k dX4_resizeDirectory_11 rfl rfl ?_
  refine v_rdSi (n := 15) k [] (z_X4_pagesFor (d := q) hQI (by omega)) miX4_pagesFor ml_X4_206 (by decide) (by decide) rfl (by decide) rfl rfl (Nat.le_of_ble_eq_true rfl) ⟨Nat.zero_le _, Nat.zero_le _⟩ dX4_resizeDirectory_12 rfl ?_
  refine v_istore_n (n := 16) k dX4_resizeDirectory_15 rfl (by decide) rfl rfl ?_
  refine v_aload_n (n := 17) k dX4_resizeDirectory_16 rfl rfl ?_
  refine v_get (n := 20) k ciX4 0 0 (by decide) fl_X4_10 rfl rfl dX4_resizeDirectory_17 rfl ?_
  refine v_iconst (n := 21) k dX4_resizeDirectory_20 rfl ?_
  refine v_upV (n := 24) k [1, 2, 3] 1 (z_X1_countKind hw w7 (kd := 0) rfl (by omega) hks) miX1_countKind ml_X4_163 (by decide) (by decide) rfl (by decide) rfl rfl rfl rfl (Nat.le_of_ble_eq_true rfl) ⟨Nat.zero_le _, Nat.zero_le _⟩ dX4_resizeDirectory_21 rfl ?_
  rintro _ _ ⟨rfl, ko2, K2, hks2, rfl⟩
  dsimp only [wput, List.set, Option.toList, List.nil_append, List.cons_append]
  refine v_iload_n (n := 25) k dX4_resizeDirectory_24 rfl rfl ?_
  refine v_iload_n (n := 26) k dX4_resizeDirectory_25 rfl rfl ?_
  refine v_isub (n := 27) k dX4_resizeDirectory_26 rfl ?_
  refine v_icmp_ge (n := 30) (t := 32) k (⟨by omega, by omega⟩) (⟨by omega, by omega⟩) dX4_resizeDirectory_27 (by decide) rfl (fun c_27 => ?_) (fun c_27 => ?_)
  · refine v_iload_n (n := 33) k dX4_resizeDirectory_32 rfl rfl ?_
    refine v_iconst (n := 34) k dX4_resizeDirectory_33 rfl ?_
    refine v_iadd (n := 35) k dX4_resizeDirectory_34 rfl ?_
    refine v_aload_n (n := 36) k dX4_resizeDirectory_35 rfl rfl ?_
    refine v_get (n := 39) k ciX4 0 0 (by decide) fl_X4_10 rfl rfl dX4_resizeDirectory_36 rfl ?_
    refine v_rdVi (n := 42) k [1] 1 (z_X1_log) miX1_log ml_X4_157 (by decide) (by decide) rfl (by decide) rfl rfl rfl rfl (Nat.le_of_ble_eq_true rfl) ⟨Nat.zero_le _, Nat.zero_le _⟩ dX4_resizeDirectory_39 rfl ?_
    refine v_icmp_le (n := 45) (t := 47) k (⟨by omega, by omega⟩) (⟨by omega, by omega⟩) dX4_resizeDirectory_42 (by decide) rfl (fun c_42 => ?_) (fun c_42 => ?_)
    · refine v_aload_n (n := 48) k dX4_resizeDirectory_47 rfl rfl ?_
      refine v_get (n := 51) k ciX4 0 1 (by decide) fl_X4_21 rfl rfl dX4_resizeDirectory_48 rfl ?_
      refine v_upV (n := 54) k [4, 9, 10] 4 (z_X0_begin) miX0_begin ml_X4_209 (by decide) (by decide) rfl (by decide) rfl rfl rfl rfl (Nat.le_of_ble_eq_true rfl) ⟨Nat.zero_le _, Nat.zero_le _⟩ dX4_resizeDirectory_51 rfl ?_
      rintro _ _ ⟨rfl, rfl⟩
      dsimp only [wput, List.set, Option.toList, List.nil_append, List.cons_append]
      refine v_aload_n (n := 55) k dX4_resizeDirectory_54 rfl rfl ?_
      refine v_get (n := 58) k ciX4 0 3 (by decide) fl_X4_32 rfl rfl dX4_resizeDirectory_55 rfl ?_
      refine v_upV (n := 61) k [7, 8] 7 (z_X2_clear) miX2_clear ml_X4_212 (by decide) (by decide) rfl (by decide) rfl rfl rfl rfl (Nat.le_of_ble_eq_true rfl) ⟨Nat.zero_le _, Nat.zero_le _⟩ dX4_resizeDirectory_58 rfl ?_
      rintro _ _ ⟨rfl, rfl⟩
      dsimp only [wput, List.set, Option.toList, List.nil_append, List.cons_append]
      refine v_aload_n (n := 62) k dX4_resizeDirectory_61 rfl rfl ?_
      refine v_get (n := 65) k ciX4 0 3 (by decide) fl_X4_32 rfl rfl dX4_resizeDirectory_62 rfl ?_
      refine v_iconst (n := 66) k dX4_resizeDirectory_65 rfl ?_
      refine v_iload_n (n := 67) k dX4_resizeDirectory_66 rfl rfl ?_
      refine v_upV (n := 70) k [7, 8] 7 (z_X2_set (i := 0) (v := q) rfl hQI (by omega)) miX2_set ml_X4_215 (by decide) (by decide) rfl (by decide) rfl rfl rfl rfl (Nat.le_of_ble_eq_true rfl) ⟨Nat.zero_le _, Nat.zero_le _⟩ dX4_resizeDirectory_67 rfl ?_
      rw [hdp_0 (C := C) (pg := pg) (lg := lg) (by omega)]
      rintro _ _ ⟨rfl, rfl⟩
      dsimp only [wput, List.set, Option.toList, List.nil_append, List.cons_append]
      refine v_iconst (n := 71) k dX4_resizeDirectory_70 rfl ?_
      refine v_istore (n := 73) k dX4_resizeDirectory_71 rfl (by decide) rfl rfl ?_
      refine v_iconst (n := 74) k dX4_resizeDirectory_73 rfl ?_
      refine v_istore (n := 76) k dX4_resizeDirectory_74 rfl (by decide) rfl rfl ?_
      exact lp_X4_resize (C0 := C) (wt0 := wt) (al0 := al) (dn0 := dn) k hq hw hlp hQI hq9 hq15 (by omega) (by omega) (pF q + 1) 0 _ _ _ _ _ _ _ _ _ _ [] (by omega) (by omega) rfl AGR.rf w3 rfl rfl hks2 hal rfl (Or.inl ⟨by omega, rfl⟩)
    · refine v_iconst (n := 46) k dX4_resizeDirectory_45 rfl ?_
      refine v_iretU k hq ?_ rfl dX4_resizeDirectory_46
      refine ⟨2, C, wt, al, dn, ko2, K2, _, _, _, _, ?_, hks2, hal, rfl, rfl⟩
      unfold sRes
      rw [if_neg (show ¬ cntK C lg 0 pg + pF (C 0) < pF q by omega), if_pos (show lg < pF q + 1 by omega)]
  · refine v_iconst (n := 31) k dX4_resizeDirectory_30 rfl ?_
    refine v_iretU k hq ?_ rfl dX4_resizeDirectory_31
    refine ⟨1, C, wt, al, dn, ko2, K2, _, _, _, _, ?_, hks2, hal, rfl, rfl⟩
    unfold sRes
    rw [if_pos (show cntK C lg 0 pg + pF (C 0) < pF q by omega)]
