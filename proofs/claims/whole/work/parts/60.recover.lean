/-- what a recovery of the reference leaves -/
def PSV (cI cB cJ cZ : ClassId) (hm : Nat) (r : Nat → Nat) (th : Int) (pg lg tp an ch : Nat) (Cg : Nat → Nat) (F : Int × DA) : Option Value → va_W → Prop := fun v w1 => ∃ (a9 : DA) (s9 : Int) (Cm9 Ou9 Dr9 En9 : Nat → Nat) (Ib9 : Nat → Bool) (Bd9 Mn9 : Nat → Nat) (q9 : RQ), F = (s9, a9) ∧ v = some (.int (iI s9)) ∧ RI pg lg a9 Cm9 Dr9 En9 Ib9 Bd9 Mn9 q9 Cg ∧ w1 = [oM hm r th pg lg (a9).2.1 (a9).2.2.1 (a9).2.2.2 ((a9).1 0) (pF ((a9).1 0)) tp an ch, aB cB (r 0) 65536 (Cm9), aN cI (r 1) 256 (Dr9), aN cI (r 2) 65536 (En9), aZ cZ (r 4) 256 (Ib9), aN cI (r 5) 256 (Bd9), aN cI (r 6) 256 (Mn9), aN cI (r 7) 23040 (q9).1, aN cI (r 8) 23040 (q9).2.1, aL cJ (r 9) 46080 (q9).2.2.1, aL cJ (r 10) 92160 (q9).2.2.2, aN cI (r 13) 256 (Ou9), aN cI (r 14) 256 (Cg)]
theorem PSV_mk {cI cB cJ cZ : ClassId} {hm : Nat} {r : Nat → Nat} {th : Int} {pg lg tp an ch : Nat} {Cg : Nat → Nat} {F : Int × DA} {v : Option Value} {w1 : va_W} (h : ∃ (a9 : DA) (s9 : Int) (Cm9 Ou9 Dr9 En9 : Nat → Nat) (Ib9 : Nat → Bool) (Bd9 Mn9 : Nat → Nat) (q9 : RQ), F = (s9, a9) ∧ v = some (.int (iI s9)) ∧ RI pg lg a9 Cm9 Dr9 En9 Ib9 Bd9 Mn9 q9 Cg ∧ w1 = [oM hm r th pg lg (a9).2.1 (a9).2.2.1 (a9).2.2.2 ((a9).1 0) (pF ((a9).1 0)) tp an ch, aB cB (r 0) 65536 (Cm9), aN cI (r 1) 256 (Dr9), aN cI (r 2) 65536 (En9), aZ cZ (r 4) 256 (Ib9), aN cI (r 5) 256 (Bd9), aN cI (r 6) 256 (Mn9), aN cI (r 7) 23040 (q9).1, aN cI (r 8) 23040 (q9).2.1, aL cJ (r 9) 46080 (q9).2.2.1, aL cJ (r 10) 92160 (q9).2.2.2, aN cI (r 13) 256 (Ou9), aN cI (r 14) 256 (Cg)]) : PSV cI cB cJ cZ hm r th pg lg tp an ch Cg F v w1 := h
def rcF (a : DA) : Int × DA := if pb a.1 1 0 = 0 then (0, a) else stC (sSet a)
theorem rc_run {C : Nat → Nat} {wt N : Int} {pg lg : Nat} (h : DNS C pg lg) (hC : ∀ j, C j < 256) {s9 : Int} {a9 : DA} (e : rcF (C, wt, N, 0) = (s9, a9)) : (s9 = 0 ∧ UPS a9 pg lg) ∨ (s9 = 4 ∧ DWN a9 pg lg) := by
  unfold rcF at e
  by_cases h0 : pb C 1 0 = 0
  · have e' : ((0 : Int), ((C, wt, N, 0) : DA)) = (s9, a9) := (if_pos h0).symm.trans e
    cases e'
    rcases h with ⟨-, h⟩ | ⟨C0, chs, j, h1, h2, h3⟩
    · exact Or.inl ⟨rfl, hC, rfl, h0, h⟩
    · have hl : chs.length = 0 := by
        have : pb C 1 0 = (chs.map Prod.fst).length := h3.1 0 (by decide)
        rw [List.length_map] at this
        omega
      have hn : chs = [] := List.eq_nil_of_length_eq_zero hl
      subst hn
      rw [List.take_nil] at h2
      exact Or.inl ⟨rfl, hC, rfl, h0, h1.2.2.2.ag h2 hC⟩
  · have e' : stC (sSet (C, wt, N, 0)) = (s9, a9) := (if_neg h0).symm.trans e
    rcases h with ⟨h, -⟩ | ⟨C0, chs, j, h1, h2, h3⟩
    · exact absurd h h0
    · rcases stC_cs e' with ⟨r1, r2⟩ | ⟨r1, r2⟩
      · rcases DNS.run h1 (a := (C, wt, N, 0)) hC rfl h2 h3 r2 with ⟨-, h9⟩ | ⟨h9, -⟩
        · exact Or.inl ⟨r1, h9⟩
        · cases h9
      · rcases DNS.run h1 (a := (C, wt, N, 0)) hC rfl h2 h3 r2 with ⟨h9, -⟩ | ⟨-, h9⟩
        · cases h9
        · exact Or.inr ⟨r1, h9⟩
theorem DNS.n0 {C : Nat → Nat} {pg lg : Nat} (h : DNS C pg lg) : pb C 1 0 ≤ lg ∧ lg ≤ 100 ∧ lg + 4 ≤ pg ∧ pg ≤ 255 := by
  rcases h with ⟨h0, h⟩ | ⟨C0, chs, j, h1, h2, h3⟩
  · exact ⟨by omega, h.1.1.2.2.2.2.2.2, h.1.2.1, h.1.1.2.1⟩
  · have hF := h1.2.2.2
    have : pb C 1 0 = (chs.map Prod.fst).length := h3.1 0 (by decide)
    rw [List.length_map] at this
    have hl := h1.1.1
    exact ⟨by omega, hF.1.1.2.2.2.2.2.2, hF.1.2.1, hF.1.1.2.1⟩
theorem rep_s {a a' : DA} {n i : Nat} {b : Bool} (h : sW a (pb a.1 1 (1 + i)) (pb a.1 (2 + i)) = (b, a')) : sRep (n + 1) i a = if b then sRep n (i + 1) a' else (false, a') := by
  show (match sW a (pb a.1 1 (1 + i)) (pb a.1 (2 + i)) with | (false, a') => (false, a') | (true, a') => sRep n (i + 1) a') = _
  rw [h]
  cases b <;> rfl
theorem set_f {a a' : DA} (h : sRep (pb a.1 1 0) 0 a = (false, a')) : sSet a = (false, a') := by
  unfold sSet
  rw [h]
theorem set_t {a a' : DA} (h : sRep (pb a.1 1 0) 0 a = (true, a')) : sSet a = sW a' 1 (fun _ => 0) := by
  unfold sSet
  rw [h]
set_option maxHeartbeats 1000000 in
set_option maxRecDepth 20000 in
theorem lp_X5_recover1 {D : va_G} {cI cB cJ cZ : ClassId} {x : Kx} {hm : Nat} {r : Nat → Nat} {pg lg : Nat} {tp an ch : Nat} {Dr En : Nat → Nat} {Ib : Nat → Bool} {Bd Mn : Nat → Nat} {q : RQ} {Cg : Nat → Nat} {dp dm : Nat} {N : Int} {n0 kk : Nat} {a : DA} {Cm Ou : Nat → Nat} {K : Int} (k : Kf x cX5_recover 5 yX5_recover.cls (some .int) D (TY cI cB cJ cZ) ({ frames := 3, cells := 0, slots := 0, locals := 70 })) {A : Nat → Prop} (hA : AGP pg Cm a.1) (hK : K = (kk : Int)) (hkk : kk + 2 < pg) (hpg : pg ≤ 255) (hB : ∀ j, a.1 j < 256) (hk9 : ∀ J : Int, Vw x 5 A D true 0 0 [oM hm r 0 pg lg (a).2.1 (a).2.2.1 (a).2.2.2 dp dm tp an ch, aB cB (r 0) 65536 (Cm), aN cI (r 1) 256 (Dr), aN cI (r 2) 65536 (En), aZ cZ (r 4) 256 (Ib), aN cI (r 5) 256 (Bd), aN cI (r 6) 256 (Mn), aN cI (r 7) 23040 (q).1, aN cI (r 8) 23040 (q).2.1, aL cJ (r 9) 46080 (q).2.2.1, aL cJ (r 10) 92160 (q).2.2.2, aN cI (r 13) 256 (lo (pb a.1 (2 + kk)) Ou 256), aN cI (r 14) 256 (Cg)] 73 [(0, .ref hm), (1, .int (iI N)), (2, .int (iI ((n0 : Nat) : Int))), (3, .int (iI K)), (4, .int (iI J))] []) : ∀ (m : Nat) (j : Nat) (J : Int), 256 < j + m → j ≤ 256 → J = (j : Int) → Vw x 5 A D true 0 0 [oM hm r 0 pg lg (a).2.1 (a).2.2.1 (a).2.2.2 dp dm tp an ch, aB cB (r 0) 65536 (Cm), aN cI (r 1) 256 (Dr), aN cI (r 2) 65536 (En), aZ cZ (r 4) 256 (Ib), aN cI (r 5) 256 (Bd), aN cI (r 6) 256 (Mn), aN cI (r 7) 23040 (q).1, aN cI (r 8) 23040 (q).2.1, aL cJ (r 9) 46080 (q).2.2.1, aL cJ (r 10) 92160 (q).2.2.2, aN cI (r 13) 256 (lo (pb a.1 (2 + kk)) Ou j), aN cI (r 14) 256 (Cg)] 43 [(0, .ref hm), (1, .int (iI N)), (2, .int (iI ((n0 : Nat) : Int))), (3, .int (iI K)), (4, .int (iI J))] [] := by
  intro m
  induction m with
  | zero => intro j J hm9 hj e1; omega
  | succ m ih =>
    intro j J hm9 hj e1
    refine v_iload (n := 45) k dX5_recover_43 rfl rfl ?_
    refine v_sipush (n := 48) k dX5_recover_45 (by decide) rfl ?_
    refine v_icmp_ge (n := 51) (t := 73) k (⟨by omega, by omega⟩) (⟨by omega, by omega⟩) dX5_recover_48 (by decide) rfl (fun c_48 => ?_) (fun c_48 => ?_)
    · have e8 : j = 256 := by omega
      rw [e8]
      exact hk9 _
    · refine v_aload_n (n := 52) k dX5_recover_51 rfl rfl ?_
      refine v_get (n := 55) k ciX5 0 23 (by decide) fl_X5_59 rfl rfl dX5_recover_52 rfl ?_
      refine v_iload (n := 57) k dX5_recover_55 rfl rfl ?_
      refine v_aload_n (n := 58) k dX5_recover_57 rfl rfl ?_
      refine v_iconst (n := 59) k dX5_recover_58 rfl ?_
      refine v_iload_n (n := 60) k dX5_recover_59 rfl rfl ?_
      refine v_iadd (n := 61) k dX5_recover_60 rfl ?_
      refine v_iload (n := 63) k dX5_recover_61 rfl rfl ?_
      refine v_rdVi (n := 66) k [0, 1] 0 (z_X5_at (p := 2 + kk) (i := j) (C := a.1) (by omega) e1 (by omega) (by omega) hpg hA) miX5_at ml_X5_91 (by decide) (by decide) rfl (by decide) rfl rfl rfl rfl (Nat.le_of_ble_eq_true rfl) ⟨Nat.zero_le _, Nat.zero_le _⟩ dX5_recover_63 rfl ?_
      refine v_iastN (n := 67) k 11 0 (j) rfl rfl (by omega) (by omega) (by omega) (pb a.1 (2 + kk) j) (rfl) dX5_recover_66 rfl ?_
      rw [lo_s (f := pb a.1 (2 + kk)) rfl]
      refine v_iinc (n := 70) k dX5_recover_67 rfl (by decide) rfl rfl rfl ?_
      refine v_goto (t := 43) k dX5_recover_70 (by decide) ?_
      exact ih (j + 1) _ (by omega) (by omega) (by omega)
set_option maxHeartbeats 1000000 in
set_option maxRecDepth 20000 in
theorem lp_X5_recover2 {D : va_G} {cI cB cJ cZ : ClassId} {x : Kx} {hm : Nat} {r : Nat → Nat} {pg lg : Nat} {tp an ch : Nat} {Dr En : Nat → Nat} {Ib : Nat → Bool} {Bd Mn : Nat → Nat} {q : RQ} {Cg : Nat → Nat} {dp dm : Nat} {N : Int} {n0 : Nat} {a1 : DA} (k : Kf x cX5_recover 5 yX5_recover.cls (some .int) D (TY cI cB cJ cZ) ({ frames := 3, cells := 0, slots := 0, locals := 70 })) (hq : isU x D [hm, r 0, r 1, r 2, r 4, r 5, r 6, r 7, r 8, r 9, r 10, r 13, r 14] (PSV cI cB cJ cZ hm r 0 pg lg tp an ch Cg (rcF a1))) (hpg : pg ≤ 255) (hn : n0 + 2 ≤ pg) (hn0 : n0 = pb a1.1 1 0) (hG : GB Dr En Bd Mn q) (hGc : ∀ j, Cg j < 256) (hok : ∀ s9 a9, rcF a1 = (s9, a9) → OKM a9.1 pg lg) : ∀ (m : Nat) (i : Nat) (K : Int) (a : DA) (Cm Ou : Nat → Nat), n0 < i + m → i ≤ n0 → K = (i : Int) → sRep n0 0 a1 = sRep (n0 - i) i a → AGP pg Cm a.1 → in32 a.2.2.1 → (∀ j, a.1 j < 256) → Vw x 5 (fun q => q ∈ [hm, r 0, r 1, r 2, r 4, r 5, r 6, r 7, r 8, r 9, r 10, r 13, r 14]) D true 0 0 [oM hm r 0 pg lg (a).2.1 (a).2.2.1 (a).2.2.2 dp dm tp an ch, aB cB (r 0) 65536 (Cm), aN cI (r 1) 256 (Dr), aN cI (r 2) 65536 (En), aZ cZ (r 4) 256 (Ib), aN cI (r 5) 256 (Bd), aN cI (r 6) 256 (Mn), aN cI (r 7) 23040 (q).1, aN cI (r 8) 23040 (q).2.1, aL cJ (r 9) 46080 (q).2.2.1, aL cJ (r 10) 92160 (q).2.2.2, aN cI (r 13) 256 (Ou), aN cI (r 14) 256 (Cg)] 35 [(0, .ref hm), (1, .int (iI N)), (2, .int (iI ((n0 : Nat) : Int))), (3, .int (iI K))] [] := by
  intro m
  induction m with
  | zero => intro i K a Cm Ou hm9 hi e1 hE hA hal hB; omega
  | succ m ih =>
    intro i K a Cm Ou hm9 hi e1 hE hA hal hB
    refine v_iload_n (n := 36) k dX5_recover_35 rfl rfl ?_
    refine v_iload_n (n := 37) k dX5_recover_36 rfl rfl ?_
    refine v_icmp_ge (n := 40) (t := 100) k (⟨by omega, by omega⟩) (⟨by omega, by omega⟩) dX5_recover_37 (by decide) rfl (fun c_37 => ?_) (fun c_37 => ?_)
    · have e8 : n0 - i = 0 := by omega
      rw [e8] at hE
      have hE3 : sRep n0 0 a1 = (true, a) := hE
      refine v_iload_n (n := 101) k dX5_recover_100 rfl rfl ?_
      refine v_if_le (n := 104) (t := 123) k (⟨by omega, by omega⟩) dX5_recover_101 (by decide) rfl (fun c_101 => ?_) (fun c_101 => ?_)
      · have hz : n0 = 0 := by omega
        have hrc : rcF a1 = (0, a) := by
          rw [hz] at hE3
          have h9 : ((true, a1) : Bool × DA) = (true, a) := hE3
          cases h9
          exact if_pos (by omega)
        obtain ⟨hw9, he9⟩ := hok _ _ hrc
        refine v_aload_n (n := 124) k dX5_recover_123 rfl rfl ?_
        refine v_upV (n := 127) k [0, 1, 2, 3, 4, 5, 6, 7, 8, 9, 10] 0 (z_X5_decode (C := a.1) hA hw9 he9 hG) miX5_decode ml_X5_88 (by decide) (by decide) rfl (by decide) rfl rfl rfl rfl (Nat.le_of_ble_eq_true rfl) ⟨Nat.zero_le _, Nat.zero_le _⟩ dX5_recover_124 rfl ?_
        rintro _ _ ⟨rfl, Dr9, En9, Ib9, Bd9, Mn9, q9, hRM9, rfl⟩
        dsimp only [wput, List.set, Option.toList, List.nil_append, List.cons_append]
        refine v_iconst (n := 128) k dX5_recover_127 rfl ?_
        refine v_iretU k hq ?_ rfl dX5_recover_128
        refine PSV_mk ⟨a, 0, Cm, _, Dr9, En9, Ib9, Bd9, Mn9, q9, hrc, rfl, ⟨hA, hal, hRM9, hGc⟩, rfl⟩
      · refine v_aload_n (n := 105) k dX5_recover_104 rfl rfl ?_
        refine v_iconst (n := 106) k dX5_recover_105 rfl ?_
        refine v_upV (n := 109) k [0, 11, 12] 0 (z_X5_journal (n := 0) rfl (by omega) hGc) miX5_journal ml_X5_133 (by decide) (by decide) rfl (by decide) rfl rfl rfl rfl (Nat.le_of_ble_eq_true rfl) ⟨Nat.zero_le _, Nat.zero_le _⟩ dX5_recover_106 rfl ?_
        rintro _ _ ⟨rfl, rfl⟩
        dsimp only [wput, List.set, Option.toList, List.nil_append, List.cons_append]
        refine v_aload_n (n := 110) k dX5_recover_109 rfl rfl ?_
        refine v_iconst (n := 111) k dX5_recover_110 rfl ?_
        refine v_upV (n := 114) k [0, 1, 11] 0 (z_X5_writes (p := 1) (C := a.1) rfl (by omega) (fun j hj => by rw [jo_0]; exact (by decide : 0 < 256)) hal hA) miX5_writes ml_X5_130 (by decide) (by decide) rfl (by decide) rfl rfl rfl rfl (Nat.le_of_ble_eq_true rfl) ⟨Nat.zero_le _, Nat.zero_le _⟩ dX5_recover_111 rfl ?_
        rintro _ _ ⟨a9, b9, Cm9, hsw, rfl, hA9, rfl⟩
        have hsw2 : sW a 1 (fun _ => 0) = (b9, a9) := (sW_congr (fun j hj => by rw [jo_0])).trans hsw
        have hal9 := sW_al hal hsw2
        have hst9 : rcF a1 = stC (b9, a9) := by
          unfold rcF
          rw [if_neg (by omega), set_t (by rw [← hn0]; exact hE3), hsw2]
        dsimp only [wput, List.set, Option.toList, List.nil_append, List.cons_append]
        refine v_if_ne (n := 117) (t := 123) k (bI_in _) dX5_recover_114 (by decide) rfl (fun c_114 => ?_) (fun c_114 => ?_)
        · have hb9 := bI_n0 c_114
          subst hb9
          have hrc : rcF a1 = (0, a9) := hst9
          obtain ⟨hw9, he9⟩ := hok _ _ hrc
          refine v_aload_n (n := 124) k dX5_recover_123 rfl rfl ?_
          refine v_upV (n := 127) k [0, 1, 2, 3, 4, 5, 6, 7, 8, 9, 10] 0 (z_X5_decode (C := a9.1) hA9 hw9 he9 hG) miX5_decode ml_X5_88 (by decide) (by decide) rfl (by decide) rfl rfl rfl rfl (Nat.le_of_ble_eq_true rfl) ⟨Nat.zero_le _, Nat.zero_le _⟩ dX5_recover_124 rfl ?_
          rintro _ _ ⟨rfl, Dr9, En9, Ib9, Bd9, Mn9, q9, hRM9, rfl⟩
          dsimp only [wput, List.set, Option.toList, List.nil_append, List.cons_append]
          refine v_iconst (n := 128) k dX5_recover_127 rfl ?_
          refine v_iretU k hq ?_ rfl dX5_recover_128
          refine PSV_mk ⟨a9, 0, Cm9, _, Dr9, En9, Ib9, Bd9, Mn9, q9, hrc, rfl, ⟨hA9, hal9, hRM9, hGc⟩, rfl⟩
        · have hb9 := bI_e0 (by simpa using c_114)
          subst hb9
          have hrc : rcF a1 = (4, a9) := hst9
          obtain ⟨hw9, he9⟩ := hok _ _ hrc
          refine v_aload_n (n := 118) k dX5_recover_117 rfl rfl ?_
          refine v_upV (n := 121) k [0, 1, 2, 3, 4, 5, 6, 7, 8, 9, 10] 0 (z_X5_decode (C := a9.1) hA9 hw9 he9 hG) miX5_decode ml_X5_88 (by decide) (by decide) rfl (by decide) rfl rfl rfl rfl (Nat.le_of_ble_eq_true rfl) ⟨Nat.zero_le _, Nat.zero_le _⟩ dX5_recover_118 rfl ?_
          rintro _ _ ⟨rfl, Dr9, En9, Ib9, Bd9, Mn9, q9, hRM9, rfl⟩
          dsimp only [wput, List.set, Option.toList, List.nil_append, List.cons_append]
          refine v_iconst (n := 122) k dX5_recover_121 rfl ?_
          refine v_iretU k hq ?_ rfl dX5_recover_122
          refine PSV_mk ⟨a9, 4, Cm9, _, Dr9, En9, Ib9, Bd9, Mn9, q9, hrc, rfl, ⟨hA9, hal9, hRM9, hGc⟩, rfl⟩
    · have hlt9 : i < n0 := by omega
      refine v_iconst (n := 41) k dX5_recover_40 rfl ?_
      refine v_istore (n := 43) k dX5_recover_41 rfl (by decide) rfl rfl ?_
      have e0 := lo_0 (pb a.1 (2 + i)) Ou
      refine v_ws (ws' := [oM hm r 0 pg lg (a).2.1 (a).2.2.1 (a).2.2.2 dp dm tp an ch, aB cB (r 0) 65536 (Cm), aN cI (r 1) 256 (Dr), aN cI (r 2) 65536 (En), aZ cZ (r 4) 256 (Ib), aN cI (r 5) 256 (Bd), aN cI (r 6) 256 (Mn), aN cI (r 7) 23040 (q).1, aN cI (r 8) 23040 (q).2.1, aL cJ (r 9) 46080 (q).2.2.1, aL cJ (r 10) 92160 (q).2.2.2, aN cI (r 13) 256 (lo (pb a.1 (2 + i)) Ou 0), aN cI (r 14) 256 (Cg)]) (by rw [e0]) ?_
      refine lp_X5_recover1 (kk := i) k hA e1 (by omega) hpg hB (fun J9 => ?_) 257 0 _ (by omega) (by omega) rfl
      refine v_aload_n (n := 74) k dX5_recover_73 rfl rfl ?_
      refine v_aload_n (n := 75) k dX5_recover_74 rfl rfl ?_
      refine v_iconst (n := 76) k dX5_recover_75 rfl ?_
      refine v_iconst (n := 77) k dX5_recover_76 rfl ?_
      refine v_iload_n (n := 78) k dX5_recover_77 rfl rfl ?_
      refine v_iadd (n := 79) k dX5_recover_78 rfl ?_
      refine v_rdVi (n := 82) k [0, 1] 0 (z_X5_at (p := 1) (i := 1 + i) (C := a.1) rfl (by omega) (by omega) (by omega) hpg hA) miX5_at ml_X5_91 (by decide) (by decide) rfl (by decide) rfl rfl rfl rfl (Nat.le_of_ble_eq_true rfl) ⟨Nat.zero_le _, Nat.zero_le _⟩ dX5_recover_79 rfl ?_
      refine v_upV (n := 85) k [0, 1, 11] 0 (z_X5_writes (p := pb a.1 1 (1 + i)) (C := a.1) rfl (hB _) (fun j hj => by rw [lo_at hj]; exact hB _) hal hA) miX5_writes ml_X5_130 (by decide) (by decide) rfl (by decide) rfl rfl rfl rfl (Nat.le_of_ble_eq_true rfl) ⟨Nat.zero_le _, Nat.zero_le _⟩ dX5_recover_82 rfl ?_
      rintro _ _ ⟨a9, b9, Cm9, hsw, rfl, hA9, rfl⟩
      have hsw2 : sW a (pb a.1 1 (1 + i)) (pb a.1 (2 + i)) = (b9, a9) := (sW_congr (fun j hj => by rw [lo_at hj])).trans hsw
      have hal9 := sW_al hal hsw2
      have hB9 : ∀ j, a9.1 j < 256 := by
        have := sW_b (p := pb a.1 1 (1 + i)) (f := pb a.1 (2 + i)) hB (fun j _ => hB _)
        rw [hsw2] at this
        exact this
      have hE2 := hE
      rw [show n0 - i = (n0 - (i + 1)) + 1 by omega, rep_s hsw2] at hE2
      dsimp only [wput, List.set, Option.toList, List.nil_append, List.cons_append]
      refine v_if_ne (n := 88) (t := 94) k (bI_in _) dX5_recover_85 (by decide) rfl (fun c_85 => ?_) (fun c_85 => ?_)
      · have hb9 := bI_n0 c_85
        subst hb9
        refine v_iinc (n := 97) k dX5_recover_94 rfl (by decide) rfl rfl rfl ?_
        refine v_goto (t := 35) k dX5_recover_97 (by decide) ?_
        refine v_lvf4a ?_
        exact ih (i + 1) _ a9 Cm9 _ (by omega) (by omega) (by omega) hE2 hA9 hal9 hB9
      · have hb9 := bI_e0 (by simpa using c_85)
        subst hb9
        have hrc : rcF a1 = (4, a9) := by
          unfold rcF
          rw [if_neg (by omega), set_f (by rw [← hn0]; exact hE2)]
          rfl
        obtain ⟨hw9, he9⟩ := hok _ _ hrc
        refine v_aload_n (n := 89) k dX5_recover_88 rfl rfl ?_
        refine v_upV (n := 92) k [0, 1, 2, 3, 4, 5, 6, 7, 8, 9, 10] 0 (z_X5_decode (C := a9.1) hA9 hw9 he9 hG) miX5_decode ml_X5_88 (by decide) (by decide) rfl (by decide) rfl rfl rfl rfl (Nat.le_of_ble_eq_true rfl) ⟨Nat.zero_le _, Nat.zero_le _⟩ dX5_recover_89 rfl ?_
        rintro _ _ ⟨rfl, Dr9, En9, Ib9, Bd9, Mn9, q9, hRM9, rfl⟩
        dsimp only [wput, List.set, Option.toList, List.nil_append, List.cons_append]
        refine v_iconst (n := 93) k dX5_recover_92 rfl ?_
        refine v_iretU k hq ?_ rfl dX5_recover_93
        refine PSV_mk ⟨a9, 4, Cm9, _, Dr9, En9, Ib9, Bd9, Mn9, q9, hrc, rfl, ⟨hA9, hal9, hRM9, hGc⟩, rfl⟩
set_option maxHeartbeats 1000000 in
set_option maxRecDepth 20000 in
theorem z_X5_recover {D : va_G} {cI cB cJ cZ : ClassId} {hm : Nat} {r : Nat → Nat} {th : Int} {pg lg : Nat} {wt al dn : Int} {tp an ch : Nat} {C Cm Ou : Nat → Nat} {Dr En : Nat → Nat} {Ib : Nat → Bool} {Bd Mn : Nat → Nat} {q : RQ} {Cg : Nat → Nat} {N : Int} (hN : in32 N) (hD : DNS C pg lg) (hC : ∀ j, C j < 256) (hI : RI pg lg (C, wt, al, dn) Cm Dr En Ib Bd Mn q Cg) : ∀ l, Up l yX5_recover cX5_recover 5 (some .int) ({ frames := 3, cells := 0, slots := 0, locals := 70 }) D (TY cI cB cJ cZ) [.ref hm, .int (iI N)] [oM hm r th pg lg wt al dn (C 0) (pF (C 0)) tp an ch, aB cB (r 0) 65536 (Cm), aN cI (r 1) 256 (Dr), aN cI (r 2) 65536 (En), aZ cZ (r 4) 256 (Ib), aN cI (r 5) 256 (Bd), aN cI (r 6) 256 (Mn), aN cI (r 7) 23040 (q).1, aN cI (r 8) 23040 (q).2.1, aL cJ (r 9) 46080 (q).2.2.1, aL cJ (r 10) 92160 (q).2.2.2, aN cI (r 13) 256 (Ou), aN cI (r 14) 256 (Cg)] (PSV cI cB cJ cZ hm r (if N < -1 then 1 else 0) pg lg tp an ch Cg (if N < -1 then (0, (C, wt, al, dn)) else rcF (C, wt, N, 0))) := by
  intro l
  refine Up_of (by decide) (Nat.le_of_ble_eq_true rfl) (fun x k hq => ?_)
  obtain ⟨hk1, hk2⟩ := id hN
  obtain ⟨n1, n2, n3, n4⟩ := hD.n0
  obtain ⟨hA, hal, hR, hGc⟩ := id hI
  replace hA : AGP pg Cm C := hA
  refine v_aload_n (n := 1) k dX5_recover_0 rfl rfl ?_
  refine v_iconst (n := 2) k dX5_recover_1 rfl ?_
  refine v_put (n := 5) k ciX5 0 0 (by decide) fl_X5_1 rfl rfl (rfl) (rfl) (Nat.le_of_ble_eq_true rfl) dX5_recover_2 rfl ?_
  refine v_iload_n (n := 6) k dX5_recover_5 rfl rfl ?_
  refine v_iconst (n := 7) k dX5_recover_6 rfl ?_
  refine v_icmp_ge (n := 10) (t := 16) k (⟨by omega, by omega⟩) (⟨by omega, by omega⟩) dX5_recover_7 (by decide) rfl (fun c_7 => ?_) (fun c_7 => ?_)
  · have hc9 : ¬ N < -1 := by omega
    rw [if_neg hc9, if_neg hc9] at hq
    refine v_aload_n (n := 17) k dX5_recover_16 rfl rfl ?_
    refine v_iload_n (n := 18) k dX5_recover_17 rfl rfl ?_
    refine v_put (n := 21) k ciX5 0 5 (by decide) fl_X5_78 rfl rfl (rfl) (rfl) (Nat.le_of_ble_eq_true rfl) dX5_recover_18 rfl ?_
    refine v_aload_n (n := 22) k dX5_recover_21 rfl rfl ?_
    refine v_iconst (n := 23) k dX5_recover_22 rfl ?_
    refine v_put (n := 26) k ciX5 0 6 (by decide) fl_X5_81 rfl rfl (rfl) (rfl) (Nat.le_of_ble_eq_true rfl) dX5_recover_23 rfl ?_
    refine v_ws (ws' := [oM hm r 0 pg lg wt N 0 (C 0) (pF (C 0)) tp an ch, aB cB (r 0) 65536 (Cm), aN cI (r 1) 256 (Dr), aN cI (r 2) 65536 (En), aZ cZ (r 4) 256 (Ib), aN cI (r 5) 256 (Bd), aN cI (r 6) 256 (Mn), aN cI (r 7) 23040 (q).1, aN cI (r 8) 23040 (q).2.1, aL cJ (r 9) 46080 (q).2.2.1, aL cJ (r 10) 92160 (q).2.2.2, aN cI (r 13) 256 (Ou), aN cI (r 14) 256 (Cg)]) (by rfl) ?_
    refine v_aload_n (n := 27) k dX5_recover_26 rfl rfl ?_
    refine v_iconst (n := 28) k dX5_recover_27 rfl ?_
    refine v_iconst (n := 29) k dX5_recover_28 rfl ?_
    refine v_rdVi (n := 32) k [0, 1] 0 (z_X5_at (p := 1) (i := 0) (C := C) rfl rfl (by omega) (by omega) n4 hA) miX5_at ml_X5_91 (by decide) (by decide) rfl (by decide) rfl rfl rfl rfl (Nat.le_of_ble_eq_true rfl) ⟨Nat.zero_le _, Nat.zero_le _⟩ dX5_recover_29 rfl ?_
    refine v_istore_n (n := 33) k dX5_recover_32 rfl (by decide) rfl rfl ?_
    refine v_iconst (n := 34) k dX5_recover_33 rfl ?_
    refine v_istore_n (n := 35) k dX5_recover_34 rfl (by decide) rfl rfl ?_
    exact lp_X5_recover2 (n0 := pb C 1 0) (a1 := (C, wt, N, 0)) k hq n4 (by omega) rfl hR.2.2.2.2 hGc (fun s9 a9 h9 => by
      rcases rc_run hD hC h9 with ⟨-, h8⟩ | ⟨-, h8⟩
      · exact h8.2.2.2.ok
      · exact h8.2.2.2.ok h8.1) (pb C 1 0 + 1) 0 _ (C, wt, N, 0) Cm Ou (by omega) (by omega) rfl rfl hA hN hC
  · have hc9 : N < -1 := by omega
    refine v_aload_n (n := 11) k dX5_recover_10 rfl rfl ?_
    refine v_iconst (n := 12) k dX5_recover_11 rfl ?_
    refine v_upV (n := 15) k [0] 0 (z_X5_throwing) miX5_throwing ml_X5_175 (by decide) (by decide) rfl (by decide) rfl rfl rfl rfl (Nat.le_of_ble_eq_true rfl) ⟨Nat.zero_le _, Nat.zero_le _⟩ dX5_recover_12 rfl ?_
    rintro _ _ ⟨rfl, rfl⟩
    dsimp only [wput, List.set, Option.toList, List.nil_append, List.cons_append]
    refine v_iretU k hq ?_ rfl dX5_recover_15
    refine PSV_mk ⟨(C, wt, al, dn), 0, Cm, Ou, Dr, En, Ib, Bd, Mn, q, if_pos hc9, rfl, hI, ?_⟩
    rw [if_pos hc9]
