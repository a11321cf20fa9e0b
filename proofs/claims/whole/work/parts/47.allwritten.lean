theorem bI_n0 {b : Bool} (h : ¬ bI b = 0) : b = true := by
  cases b with
  | true => rfl
  | false => exact absurd rfl h
theorem bI_e0 {b : Bool} (h : bI b = 0) : b = false := by
  cases b with
  | false => rfl
  | true => exact absurd h (by decide)
theorem sW_al {a a' : DA} {p : Nat} {f : Nat → Nat} {b : Bool} (h : in32 a.2.2.1) (e : sW a p f = (b, a')) : in32 a'.2.2.1 := by
  rcases sW_cases a p f with ⟨-, r⟩ | ⟨-, r⟩
  · rw [r] at e
    cases e
    exact h
  · rw [r] at e
    cases e
    exact alW_in h
theorem ch_no {a0 a' : DA} {chs : List (Nat × (Nat → Nat))} (h : sImg a0 0 chs = (false, a')) : sChg a0 chs = (false, a') := by
  unfold sChg
  rw [h]
theorem ch_jn {a0 a a' : DA} {chs : List (Nat × (Nat → Nat))} (h : sImg a0 0 chs = (true, a)) (h2 : sW a 1 (jpg (chs.map Prod.fst)) = (false, a')) : sChg a0 chs = (false, a') := by
  unfold sChg
  rw [h]
  show sFin a (chs.map Prod.fst) = _
  unfold sFin
  rw [h2]
def sEnd (r : Bool × DA) : Bool × DA := match r with
  | (false, b) => (false, b)
  | (true, b) => sW b 1 (fun _ => 0)
theorem ch_put {pg lg : Nat} {a0 a a' : DA} {chs : List (Nat × (Nat → Nat))} (hP : PL pg lg chs) (hlg : lg ≤ 100) (h : sImg a0 0 chs = (true, a)) (h2 : sW a 1 (jpg (chs.map Prod.fst)) = (true, a')) : sChg a0 chs = sEnd (sPut a' chs) := by
  have hl := hP.1
  obtain ⟨g1, g2⟩ := sImg_states 0 a0 true a h
  rcases g2 with ⟨-, g4, g5⟩ | ⟨g, -⟩
  · have e1 : a'.1 = wrp a.1 1 (jpg (chs.map Prod.fst)) := by
      rcases sW_cases a 1 (jpg (chs.map Prod.fst)) with ⟨-, r⟩ | ⟨-, r⟩
      · rw [r] at h2
        cases h2
      · rw [r] at h2
        cases h2
        rfl
    have hI : IMG a'.1 chs := by
      rw [e1]
      refine ⟨fun i hi => wrp_in hi, fun k c hk i hi => ?_⟩
      rw [wrp_out hi (by omega)]
      have := g5 k c hk i hi
      rw [show 2 + 0 + k = 2 + k by omega] at this
      exact this
    have hn0 : pb a'.1 1 0 = chs.length := by
      rw [hI.1 0 (by decide)]
      show (chs.map Prod.fst).length = _
      rw [List.length_map]
    unfold sChg
    rw [h]
    show sFin a (chs.map Prod.fst) = _
    unfold sFin
    rw [h2]
    show sSet a' = _
    have hr := sRep_put hP chs.length 0 a' (by omega) (by omega) hI
    rw [List.drop_zero] at hr
    unfold sSet
    rw [hn0, hr]
    rfl
  · cases g
theorem jo_jpg {Cg : Nat → Nat} {chs : List (Nat × (Nat → Nat))} (h : ∀ k c, chs[k]? = some c → Cg k = c.1) : jo chs.length Cg = jpg (chs.map Prod.fst) := by
  funext j
  unfold jo jpg
  by_cases e : j = 0
  · rw [if_pos e, if_pos e, List.length_map]
  · rw [if_neg e, if_neg e, List.getD_eq_getElem?_getD, List.getElem?_map]
    by_cases e2 : j ≤ chs.length
    · have hl : j - 1 < chs.length := by omega
      rw [if_pos e2, h (j - 1) _ (List.getElem?_eq_getElem hl), List.getElem?_eq_getElem hl]
      rfl
    · rw [if_neg e2, List.getElem?_eq_none (by omega)]
      rfl
theorem jo_0 (g : Nat → Nat) : jo 0 g = fun _ => 0 := by
  funext j
  unfold jo
  split
  · rfl
  · rw [if_neg (by omega)]
theorem img_s {a a9 : DA} {i : Nat} {chs : List (Nat × (Nat → Nat))} (hi : i < chs.length) (h : sW a (2 + i) chs[i].2 = (true, a9)) : sImg a i (chs.drop i) = sImg a9 (i + 1) (chs.drop (i + 1)) := by
  rw [List.drop_eq_getElem_cons hi]
  show (match sW a (2 + i) chs[i].2 with | (false, a') => (false, a') | (true, a') => sImg a' (i + 1) (chs.drop (i + 1))) = _
  rw [h]
theorem img_n {a a9 : DA} {i : Nat} {chs : List (Nat × (Nat → Nat))} (hi : i < chs.length) (h : sW a (2 + i) chs[i].2 = (false, a9)) : sImg a i (chs.drop i) = (false, a9) := by
  rw [List.drop_eq_getElem_cons hi]
  show (match sW a (2 + i) chs[i].2 with | (false, a') => (false, a') | (true, a') => sImg a' (i + 1) (chs.drop (i + 1))) = _
  rw [h]
theorem put_s {a a9 : DA} {i : Nat} {chs : List (Nat × (Nat → Nat))} (hi : i < chs.length) (h : sW a chs[i].1 chs[i].2 = (true, a9)) : sPut a (chs.drop i) = sPut a9 (chs.drop (i + 1)) := by
  rw [List.drop_eq_getElem_cons hi]
  show (match sW a chs[i].1 chs[i].2 with | (false, a') => (false, a') | (true, a') => sPut a' (chs.drop (i + 1))) = _
  rw [h]
theorem put_n {a a9 : DA} {i : Nat} {chs : List (Nat × (Nat → Nat))} (hi : i < chs.length) (h : sW a chs[i].1 chs[i].2 = (false, a9)) : sPut a (chs.drop i) = (false, a9) := by
  rw [List.drop_eq_getElem_cons hi]
  show (match sW a chs[i].1 chs[i].2 with | (false, a') => (false, a') | (true, a') => sPut a' (chs.drop (i + 1))) = _
  rw [h]
/-- the reference's arrays tell of this CHANGE -/
def TEL (dp dm : Nat) (Dr En Bd Mn : Nat → Nat) (q : RQ) (Cg : Nat → Nat) (chs : List (Nat × (Nat → Nat))) : Prop := ∀ k c, chs[k]? = some c → Cg k = c.1 ∧ (∀ i, i < 256 → rnM dp dm Dr En Bd Mn q c.1 i = c.2 i) ∧ (c.1 ≠ 0 → dfM Dr dm c.1 = none → btM q c.1 (Mn c.1) ≤ 252)
set_option maxHeartbeats 1000000 in
set_option maxRecDepth 20000 in
theorem lp_X5_allWritten2 {D : va_G} {cI cB cJ cZ : ClassId} {x : Kx} {hm : Nat} {r : Nat → Nat} {th : Int} {pg lg : Nat} {dp dm tp an ch : Nat} {Dr En Bd Mn : Nat → Nat} {q : RQ} {Cg : Nat → Nat} {chs : List (Nat × (Nat → Nat))} {a0 : DA} (k : Kf x cX5_allWritten 2 yX5_allWritten.cls (some .boolean) D (TY cI cB cJ cZ) ({ frames := 2, cells := 0, slots := 0, locals := 49 })) (hq : isU x D [hm, r 0, r 1, r 2, r 5, r 6, r 7, r 8, r 9, r 10, r 13, r 14] (fun v w1 => ∃ (a9 : DA) (b9 : Bool) (Cm9 Ou9 : Nat → Nat), sChg a0 chs = (b9, a9) ∧ v = some (.int (iI (bI b9))) ∧ AGP pg Cm9 a9.1 ∧ in32 a9.2.2.1 ∧ w1 = [oM hm r th pg lg (a9).2.1 (a9).2.2.1 (a9).2.2.2 dp dm tp an ch, aB cB (r 0) 65536 (Cm9), aN cI (r 1) 256 Dr, aN cI (r 2) 65536 En, aN cI (r 5) 256 Bd, aN cI (r 6) 256 Mn, aN cI (r 7) 23040 q.1, aN cI (r 8) 23040 q.2.1, aL cJ (r 9) 46080 q.2.2.1, aL cJ (r 10) 92160 q.2.2.2, aN cI (r 13) 256 (Ou9), aN cI (r 14) 256 Cg])) (hdp : dp ≤ 15) (hdm : dm ≤ 255) (hpg : pg ≤ 255) (hlg : lg ≤ 100) (hG : GB Dr En Bd Mn q) (hGc : ∀ j, Cg j < 256) (hch : ch = chs.length) (hP : PL pg lg chs) (hT : TEL dp dm Dr En Bd Mn q Cg chs) : ∀ (m : Nat) (i : Nat) (I : Int) (a : DA) (Cm Ou : Nat → Nat), chs.length < i + m → i ≤ chs.length → I = (i : Int) → sChg a0 chs = sEnd (sPut a (chs.drop i)) → AGP pg Cm a.1 → in32 a.2.2.1 → Vw x 2 (fun q => q ∈ [hm, r 0, r 1, r 2, r 5, r 6, r 7, r 8, r 9, r 10, r 13, r 14]) D true 0 0 [oM hm r th pg lg (a).2.1 (a).2.2.1 (a).2.2.2 dp dm tp an ch, aB cB (r 0) 65536 Cm, aN cI (r 1) 256 Dr, aN cI (r 2) 65536 En, aN cI (r 5) 256 Bd, aN cI (r 6) 256 Mn, aN cI (r 7) 23040 q.1, aN cI (r 8) 23040 q.2.1, aL cJ (r 9) 46080 q.2.2.1, aL cJ (r 10) 92160 q.2.2.2, aN cI (r 13) 256 Ou, aN cI (r 14) 256 Cg] 58 [(0, .ref hm), (1, .int (iI I))] [] := by
  intro m
  induction m with
  | zero => intro i I a Cm Ou hm9 hi e1 hE hA hal; omega
  | succ m ih =>
    intro i I a Cm Ou hm9 hi e1 hE hA hal
    have hlen9 := hP.1
    refine v_iload_n (n := 59) k dX5_allWritten_58 rfl rfl ?_
    refine v_aload_n (n := 60) k dX5_allWritten_59 rfl rfl ?_
    refine v_get (n := 63) k ciX5 0 25 (by decide) fl_X5_124 rfl rfl dX5_allWritten_60 rfl ?_
    refine v_icmp_ge (n := 66) (t := 97) k (⟨by omega, by omega⟩) (⟨by omega, by omega⟩) dX5_allWritten_63 (by decide) rfl (fun c_63 => ?_) (fun c_63 => ?_)
    · have e8 : chs.drop i = [] := List.drop_eq_nil_of_le (by omega)
      rw [e8] at hE
      have hE2 : sChg a0 chs = sW a 1 (fun _ => 0) := hE
      refine v_aload_n (n := 98) k dX5_allWritten_97 rfl rfl ?_
      refine v_iconst (n := 99) k dX5_allWritten_98 rfl ?_
      refine v_upV (n := 102) k [0, 10, 11] 0 (z_X5_journal (n := 0) rfl (by omega) hGc) miX5_journal ml_X5_133 (by decide) (by decide) rfl (by decide) rfl rfl rfl rfl (Nat.le_of_ble_eq_true rfl) ⟨Nat.zero_le _, Nat.zero_le _⟩ dX5_allWritten_99 rfl ?_
      rintro _ _ ⟨rfl, rfl⟩
      dsimp only [wput, List.set, Option.toList, List.nil_append, List.cons_append]
      refine v_aload_n (n := 103) k dX5_allWritten_102 rfl rfl ?_
      refine v_iconst (n := 104) k dX5_allWritten_103 rfl ?_
      refine v_upV (n := 107) k [0, 1, 10] 0 (z_X5_writes (p := 1) (C := a.1) rfl (by omega) (fun j hj => by rw [jo_0]; exact (by decide : 0 < 256)) hal hA) miX5_writes ml_X5_130 (by decide) (by decide) rfl (by decide) rfl rfl rfl rfl (Nat.le_of_ble_eq_true rfl) ⟨Nat.zero_le _, Nat.zero_le _⟩ dX5_allWritten_104 rfl ?_
      rintro _ _ ⟨a9, b9, Cm9, hsw, rfl, hA9, rfl⟩
      have hsw2 : sW a 1 (fun _ => 0) = (b9, a9) := (sW_congr (fun j hj => by rw [jo_0])).trans hsw
      have hal9 := sW_al hal hsw2
      dsimp only [wput, List.set, Option.toList, List.nil_append, List.cons_append]
      refine v_zretU k (bI_z b9) hq ?_ rfl dX5_allWritten_107
      exact ⟨a9, b9, Cm9, _, hE2.trans hsw2, rfl, hA9, hal9, rfl⟩
    · have hi9 : i < chs.length := by omega
      obtain ⟨hg1, hg2, hg3⟩ := hT i chs[i] (List.getElem?_eq_getElem hi9)
      obtain ⟨hp1, hp2, hp3⟩ := hP.2.2 chs[i] (List.getElem_mem hi9)
      have hO9 : ∀ j, j < 256 → rnM dp dm Dr En Bd Mn q (Cg i) j < 256 := fun j hj => by rw [hg1, hg2 j hj]; exact hp3 j hj
      have hl9 := hP.1
      have hc9 : Cg i < 256 := hGc i
      have hbt9 : Cg i ≠ 0 → dfM Dr dm (Cg i) = none → btM q (Cg i) (Mn (Cg i)) ≤ 252 := by rw [hg1]; exact hg3
      refine v_aload_n (n := 67) k dX5_allWritten_66 rfl rfl ?_
      refine v_aload_n (n := 68) k dX5_allWritten_67 rfl rfl ?_
      refine v_get (n := 71) k ciX5 0 24 (by decide) fl_X5_62 rfl rfl dX5_allWritten_68 rfl ?_
      refine v_iload_n (n := 72) k dX5_allWritten_71 rfl rfl ?_
      refine v_ialdN (n := 73) k 11 0 (i) rfl rfl (by omega) (by omega) (by omega) dX5_allWritten_72 rfl ?_
      refine v_upV (n := 76) k [0, 2, 3, 4, 5, 6, 7, 8, 9, 10] 0 (z_X5_render (p := Cg i) rfl hc9 hdp hdm hG.1 (hG.2.2.2.1 _) hG.2.2.2.2 hbt9) miX5_render ml_X5_127 (by decide) (by decide) rfl (by decide) rfl rfl rfl rfl (Nat.le_of_ble_eq_true rfl) ⟨Nat.zero_le _, Nat.zero_le _⟩ dX5_allWritten_73 rfl ?_
      rintro _ _ ⟨rfl, rfl⟩
      dsimp only [wput, List.set, Option.toList, List.nil_append, List.cons_append]
      refine v_aload_n (n := 77) k dX5_allWritten_76 rfl rfl ?_
      refine v_aload_n (n := 78) k dX5_allWritten_77 rfl rfl ?_
      refine v_get (n := 81) k ciX5 0 24 (by decide) fl_X5_62 rfl rfl dX5_allWritten_78 rfl ?_
      refine v_iload_n (n := 82) k dX5_allWritten_81 rfl rfl ?_
      refine v_ialdN (n := 83) k 11 0 (i) rfl rfl (by omega) (by omega) (by omega) dX5_allWritten_82 rfl ?_
      refine v_upV (n := 86) k [0, 1, 10] 0 (z_X5_writes (p := Cg i) (C := a.1) rfl hc9 hO9 hal hA) miX5_writes ml_X5_130 (by decide) (by decide) rfl (by decide) rfl rfl rfl rfl (Nat.le_of_ble_eq_true rfl) ⟨Nat.zero_le _, Nat.zero_le _⟩ dX5_allWritten_83 rfl ?_
      rintro _ _ ⟨a9, b9, Cm9, hsw, rfl, hA9, rfl⟩
      have hsw2 : sW a chs[i].1 chs[i].2 = (b9, a9) := by
        rw [← hg1]
        exact (sW_congr (fun j hj => by rw [← hg2 j hj, hg1])).trans hsw
      have hal9 := sW_al hal hsw2
      dsimp only [wput, List.set, Option.toList, List.nil_append, List.cons_append]
      refine v_if_ne (n := 89) (t := 91) k (bI_in _) dX5_allWritten_86 (by decide) rfl (fun c_86 => ?_) (fun c_86 => ?_)
      · have hb9 := bI_n0 c_86
        subst hb9
        refine v_iinc (n := 94) k dX5_allWritten_91 rfl (by decide) rfl rfl rfl ?_
        refine v_goto (t := 58) k dX5_allWritten_94 (by decide) ?_
        exact ih (i + 1) _ a9 Cm9 _ (by omega) (by omega) (by omega) (by rw [hE, put_s hi9 hsw2]) hA9 hal9
      · have hb9 := bI_e0 (by simpa using c_86)
        subst hb9
        refine v_iconst (n := 90) k dX5_allWritten_89 rfl ?_
        refine v_zretU k (by decide) hq ?_ rfl dX5_allWritten_90
        exact ⟨a9, false, Cm9, _, by rw [hE, put_n hi9 hsw2]; rfl, rfl, hA9, hal9, rfl⟩
set_option maxHeartbeats 1000000 in
set_option maxRecDepth 20000 in
theorem lp_X5_allWritten1 {D : va_G} {cI cB cJ cZ : ClassId} {x : Kx} {hm : Nat} {r : Nat → Nat} {th : Int} {pg lg : Nat} {dp dm tp an ch : Nat} {Dr En Bd Mn : Nat → Nat} {q : RQ} {Cg : Nat → Nat} {chs : List (Nat × (Nat → Nat))} {a0 : DA} (k : Kf x cX5_allWritten 2 yX5_allWritten.cls (some .boolean) D (TY cI cB cJ cZ) ({ frames := 2, cells := 0, slots := 0, locals := 49 })) (hq : isU x D [hm, r 0, r 1, r 2, r 5, r 6, r 7, r 8, r 9, r 10, r 13, r 14] (fun v w1 => ∃ (a9 : DA) (b9 : Bool) (Cm9 Ou9 : Nat → Nat), sChg a0 chs = (b9, a9) ∧ v = some (.int (iI (bI b9))) ∧ AGP pg Cm9 a9.1 ∧ in32 a9.2.2.1 ∧ w1 = [oM hm r th pg lg (a9).2.1 (a9).2.2.1 (a9).2.2.2 dp dm tp an ch, aB cB (r 0) 65536 (Cm9), aN cI (r 1) 256 Dr, aN cI (r 2) 65536 En, aN cI (r 5) 256 Bd, aN cI (r 6) 256 Mn, aN cI (r 7) 23040 q.1, aN cI (r 8) 23040 q.2.1, aL cJ (r 9) 46080 q.2.2.1, aL cJ (r 10) 92160 q.2.2.2, aN cI (r 13) 256 (Ou9), aN cI (r 14) 256 Cg])) (hdp : dp ≤ 15) (hdm : dm ≤ 255) (hpg : pg ≤ 255) (hlg : lg ≤ 100) (hG : GB Dr En Bd Mn q) (hGc : ∀ j, Cg j < 256) (hch : ch = chs.length) (hP : PL pg lg chs) (hT : TEL dp dm Dr En Bd Mn q Cg chs) : ∀ (m : Nat) (i : Nat) (I : Int) (a : DA) (Cm Ou : Nat → Nat), chs.length < i + m → i ≤ chs.length → I = (i : Int) → sImg a0 0 chs = sImg a i (chs.drop i) → AGP pg Cm a.1 → in32 a.2.2.1 → Vw x 2 (fun q => q ∈ [hm, r 0, r 1, r 2, r 5, r 6, r 7, r 8, r 9, r 10, r 13, r 14]) D true 0 0 [oM hm r th pg lg (a).2.1 (a).2.2.1 (a).2.2.2 dp dm tp an ch, aB cB (r 0) 65536 Cm, aN cI (r 1) 256 Dr, aN cI (r 2) 65536 En, aN cI (r 5) 256 Bd, aN cI (r 6) 256 Mn, aN cI (r 7) 23040 q.1, aN cI (r 8) 23040 q.2.1, aL cJ (r 9) 46080 q.2.2.1, aL cJ (r 10) 92160 q.2.2.2, aN cI (r 13) 256 Ou, aN cI (r 14) 256 Cg] 2 [(0, .ref hm), (1, .int (iI I))] [] := by
  intro m
  induction m with
  | zero => intro i I a Cm Ou hm9 hi e1 hE hA hal; omega
  | succ m ih =>
    intro i I a Cm Ou hm9 hi e1 hE hA hal
    have hlen9 := hP.1
    refine v_iload_n (n := 3) k dX5_allWritten_2 rfl rfl ?_
    refine v_aload_n (n := 4) k dX5_allWritten_3 rfl rfl ?_
    refine v_get (n := 7) k ciX5 0 25 (by decide) fl_X5_124 rfl rfl dX5_allWritten_4 rfl ?_
    refine v_icmp_ge (n := 10) (t := 38) k (⟨by omega, by omega⟩) (⟨by omega, by omega⟩) dX5_allWritten_7 (by decide) rfl (fun c_7 => ?_) (fun c_7 => ?_)
    · have e8 : chs.drop i = [] := List.drop_eq_nil_of_le (by omega)
      rw [e8] at hE
      have hE2 : sImg a0 0 chs = (true, a) := hE
      have hj9 := jo_jpg (Cg := Cg) (fun k c hk => (hT k c hk).1)
      rw [← hch] at hj9
      refine v_aload_n (n := 39) k dX5_allWritten_38 rfl rfl ?_
      refine v_aload_n (n := 40) k dX5_allWritten_39 rfl rfl ?_
      refine v_get (n := 43) k ciX5 0 25 (by decide) fl_X5_124 rfl rfl dX5_allWritten_40 rfl ?_
      refine v_upV (n := 46) k [0, 10, 11] 0 (z_X5_journal (n := ch) rfl (by omega) hGc) miX5_journal ml_X5_133 (by decide) (by decide) rfl (by decide) rfl rfl rfl rfl (Nat.le_of_ble_eq_true rfl) ⟨Nat.zero_le _, Nat.zero_le _⟩ dX5_allWritten_43 rfl ?_
      rintro _ _ ⟨rfl, rfl⟩
      dsimp only [wput, List.set, Option.toList, List.nil_append, List.cons_append]
      refine v_aload_n (n := 47) k dX5_allWritten_46 rfl rfl ?_
      refine v_iconst (n := 48) k dX5_allWritten_47 rfl ?_
      refine v_upV (n := 51) k [0, 1, 10] 0 (z_X5_writes (p := 1) (C := a.1) rfl (by omega) (fun j hj => by rw [hj9]; exact hP.jp hlg hpg j) hal hA) miX5_writes ml_X5_130 (by decide) (by decide) rfl (by decide) rfl rfl rfl rfl (Nat.le_of_ble_eq_true rfl) ⟨Nat.zero_le _, Nat.zero_le _⟩ dX5_allWritten_48 rfl ?_
      rintro _ _ ⟨a9, b9, Cm9, hsw, rfl, hA9, rfl⟩
      have hsw2 : sW a 1 (jpg (chs.map Prod.fst)) = (b9, a9) := (sW_congr (fun j hj => by rw [hj9])).trans hsw
      have hal9 := sW_al hal hsw2
      dsimp only [wput, List.set, Option.toList, List.nil_append, List.cons_append]
      refine v_if_ne (n := 54) (t := 56) k (bI_in _) dX5_allWritten_51 (by decide) rfl (fun c_51 => ?_) (fun c_51 => ?_)
      · have hb9 := bI_n0 c_51
        subst hb9
        refine v_iconst (n := 57) k dX5_allWritten_56 rfl ?_
        refine v_istore_n (n := 58) k dX5_allWritten_57 rfl (by decide) rfl rfl ?_
        exact lp_X5_allWritten2 k hq hdp hdm hpg hlg hG hGc hch hP hT (chs.length + 1) 0 _ a9 Cm9 _ (by omega) (by omega) rfl (by rw [List.drop_zero]; exact ch_put hP hlg hE2 hsw2) hA9 hal9
      · have hb9 := bI_e0 (by simpa using c_51)
        subst hb9
        refine v_iconst (n := 55) k dX5_allWritten_54 rfl ?_
        refine v_zretU k (by decide) hq ?_ rfl dX5_allWritten_55
        exact ⟨a9, false, Cm9, _, ch_jn hE2 hsw2, rfl, hA9, hal9, rfl⟩
    · have hi9 : i < chs.length := by omega
      obtain ⟨hg1, hg2, hg3⟩ := hT i chs[i] (List.getElem?_eq_getElem hi9)
      obtain ⟨hp1, hp2, hp3⟩ := hP.2.2 chs[i] (List.getElem_mem hi9)
      have hO9 : ∀ j, j < 256 → rnM dp dm Dr En Bd Mn q (Cg i) j < 256 := fun j hj => by rw [hg1, hg2 j hj]; exact hp3 j hj
      have hl9 := hP.1
      have hc9 : Cg i < 256 := hGc i
      have hbt9 : Cg i ≠ 0 → dfM Dr dm (Cg i) = none → btM q (Cg i) (Mn (Cg i)) ≤ 252 := by rw [hg1]; exact hg3
      refine v_aload_n (n := 11) k dX5_allWritten_10 rfl rfl ?_
      refine v_aload_n (n := 12) k dX5_allWritten_11 rfl rfl ?_
      refine v_get (n := 15) k ciX5 0 24 (by decide) fl_X5_62 rfl rfl dX5_allWritten_12 rfl ?_
      refine v_iload_n (n := 16) k dX5_allWritten_15 rfl rfl ?_
      refine v_ialdN (n := 17) k 11 0 (i) rfl rfl (by omega) (by omega) (by omega) dX5_allWritten_16 rfl ?_
      refine v_upV (n := 20) k [0, 2, 3, 4, 5, 6, 7, 8, 9, 10] 0 (z_X5_render (p := Cg i) rfl hc9 hdp hdm hG.1 (hG.2.2.2.1 _) hG.2.2.2.2 hbt9) miX5_render ml_X5_127 (by decide) (by decide) rfl (by decide) rfl rfl rfl rfl (Nat.le_of_ble_eq_true rfl) ⟨Nat.zero_le _, Nat.zero_le _⟩ dX5_allWritten_17 rfl ?_
      rintro _ _ ⟨rfl, rfl⟩
      dsimp only [wput, List.set, Option.toList, List.nil_append, List.cons_append]
      refine v_aload_n (n := 21) k dX5_allWritten_20 rfl rfl ?_
      refine v_iconst (n := 22) k dX5_allWritten_21 rfl ?_
      refine v_iload_n (n := 23) k dX5_allWritten_22 rfl rfl ?_
      refine v_iadd (n := 24) k dX5_allWritten_23 rfl ?_
      refine v_upV (n := 27) k [0, 1, 10] 0 (z_X5_writes (p := 2 + i) (C := a.1) (by omega) (by omega) hO9 hal hA) miX5_writes ml_X5_130 (by decide) (by decide) rfl (by decide) rfl rfl rfl rfl (Nat.le_of_ble_eq_true rfl) ⟨Nat.zero_le _, Nat.zero_le _⟩ dX5_allWritten_24 rfl ?_
      rintro _ _ ⟨a9, b9, Cm9, hsw, rfl, hA9, rfl⟩
      have hsw2 : sW a (2 + i) chs[i].2 = (b9, a9) := (sW_congr (fun j hj => by rw [← hg2 j hj, hg1])).trans hsw
      have hal9 := sW_al hal hsw2
      dsimp only [wput, List.set, Option.toList, List.nil_append, List.cons_append]
      refine v_if_ne (n := 30) (t := 32) k (bI_in _) dX5_allWritten_27 (by decide) rfl (fun c_27 => ?_) (fun c_27 => ?_)
      · have hb9 := bI_n0 c_27
        subst hb9
        refine v_iinc (n := 35) k dX5_allWritten_32 rfl (by decide) rfl rfl rfl ?_
        refine v_goto (t := 2) k dX5_allWritten_35 (by decide) ?_
        exact ih (i + 1) _ a9 Cm9 _ (by omega) (by omega) (by omega) (by rw [hE, img_s hi9 hsw2]) hA9 hal9
      · have hb9 := bI_e0 (by simpa using c_27)
        subst hb9
        refine v_iconst (n := 31) k dX5_allWritten_30 rfl ?_
        refine v_zretU k (by decide) hq ?_ rfl dX5_allWritten_31
        exact ⟨a9, false, Cm9, _, ch_no (by rw [hE, img_n hi9 hsw2]), rfl, hA9, hal9, rfl⟩
set_option maxHeartbeats 1000000 in
set_option maxRecDepth 20000 in
theorem z_X5_allWritten {D : va_G} {cI cB cJ cZ : ClassId} {hm : Nat} {r : Nat → Nat} {th : Int} {pg lg : Nat} {wt al dn : Int} {dp dm tp an ch : Nat} {Cm : Nat → Nat} {Dr : Nat → Nat} {En : Nat → Nat} {Bd : Nat → Nat} {Mn : Nat → Nat} {Ou : Nat → Nat} {Cg : Nat → Nat} {q : RQ} {chs : List (Nat × (Nat → Nat))} {C : Nat → Nat} (hdp : dp ≤ 15) (hdm : dm ≤ 255) (hpg : pg ≤ 255) (hlg : lg ≤ 100) (hG : GB Dr En Bd Mn q) (hGc : ∀ j, Cg j < 256) (hch : ch = chs.length) (hP : PL pg lg chs) (hT : TEL dp dm Dr En Bd Mn q Cg chs) (hA : AGP pg Cm C) (hal : in32 al) : ∀ l, Up l yX5_allWritten cX5_allWritten 2 (some .boolean) ({ frames := 2, cells := 0, slots := 0, locals := 49 }) D (TY cI cB cJ cZ) [.ref hm] [oM hm r th pg lg wt al dn dp dm tp an ch, aB cB (r 0) 65536 Cm, aN cI (r 1) 256 Dr, aN cI (r 2) 65536 En, aN cI (r 5) 256 Bd, aN cI (r 6) 256 Mn, aN cI (r 7) 23040 q.1, aN cI (r 8) 23040 q.2.1, aL cJ (r 9) 46080 q.2.2.1, aL cJ (r 10) 92160 q.2.2.2, aN cI (r 13) 256 Ou, aN cI (r 14) 256 Cg] (fun v w1 => ∃ (a9 : DA) (b9 : Bool) (Cm9 Ou9 : Nat → Nat), sChg (C, wt, al, dn) chs = (b9, a9) ∧ v = some (.int (iI (bI b9))) ∧ AGP pg Cm9 a9.1 ∧ in32 a9.2.2.1 ∧ w1 = [oM hm r th pg lg (a9).2.1 (a9).2.2.1 (a9).2.2.2 dp dm tp an ch, aB cB (r 0) 65536 (Cm9), aN cI (r 1) 256 Dr, aN cI (r 2) 65536 En, aN cI (r 5) 256 Bd, aN cI (r 6) 256 Mn, aN cI (r 7) 23040 q.1, aN cI (r 8) 23040 q.2.1, aL cJ (r 9) 46080 q.2.2.1, aL cJ (r 10) 92160 q.2.2.2, aN cI (r 13) 256 (Ou9), aN cI (r 14) 256 Cg]) := by
  intro l
  refine Up_of (by decide) (Nat.le_of_ble_eq_true rfl) (fun x k hq => ?_)
  refine v_iconst (n := 1) k dX5_allWritten_0 rfl ?_
  refine v_istore_n (n := 2) k dX5_allWritten_1 rfl (by decide) rfl rfl ?_
  exact lp_X5_allWritten1 (a0 := (C, wt, al, dn)) k hq hdp hdm hpg hlg hG hGc hch hP hT (chs.length + 1) 0 _ (C, wt, al, dn) Cm Ou (by omega) (by omega) rfl (by rw [List.drop_zero]) hA hal
