/-- what every step needs: the entries tell buckets -/
def EOK (C : Nat → Nat) (pg lg : Nat) : Prop := DW C pg lg ∧ lg + 4 ≤ pg ∧ C 0 ≤ 14 ∧ ∀ i, i < 2 ^ C 0 → lg + 2 ≤ entN C i ∧ entN C i < pg ∧ WB C (entN C i) ∧ pb C (entN C i) 0 ≤ C 0
def sMA (lg h : Nat) : Nat → DA → Int × DA
  | 0, a => (0, a)
  | n + 1, a => match mpN a.1 h with
    | none => (0, a)
    | some o => if (sMrg a lg h o).1 = 0 then sMA lg h n (sMrg a lg h o).2 else sMrg a lg h o
def sHA (pg lg : Nat) : Nat → DA → Int × DA
  | 0, a => (0, a)
  | n + 1, a => if a.1 0 = 0 ∨ hbD a.1 pg lg (a.1 0) = true then (0, a) else
    if (sRes a pg lg (a.1 0 - 1)).1 = 0 then sHA pg lg n (sRes a pg lg (a.1 0 - 1)).2 else (if (sRes a pg lg (a.1 0 - 1)).1 = 4 then 4 else 0, (sRes a pg lg (a.1 0 - 1)).2)
/-- one step that makes place -/
def sSt (a : DA) (pg lg h : Nat) : Int × DA := if pb a.1 (entN a.1 (idx a.1 h)) 0 = a.1 0 then sRes a pg lg (a.1 0 + 1) else sSpl a pg lg (entN a.1 (idx a.1 h)) h
def sMP (pg lg h : Nat) (T : Nat → Nat) (ks z : Nat) : Nat → DA → Int × DA
  | 0, a => (1, a)
  | n + 1, a => if plc a.1 (entN a.1 (idx a.1 h)) T ks z = true then (0, a) else if allH a.1 (entN a.1 (idx a.1 h)) h = true then (3, a) else
    if (sSt a pg lg h).1 = 0 then sMP pg lg h T ks z n (sSt a pg lg h).2 else sSt a pg lg h
theorem mpN_some {C : Nat → Nat} {h o : Nat} (e : mpN C h = some o) : 1 ≤ pb C (entN C (idx C h)) 0 ∧ o = entN C (idx C h ^^^ 2 ^ (C 0 - pb C (entN C (idx C h)) 0)) ∧ bL C (entN C (idx C h)) + bL C o ≤ 126 ∧ pb C o 0 = pb C (entN C (idx C h)) 0 := by
  unfold mpN at e
  split at e
  · cases e
  · split at e
    · rename_i h1 h2
      cases e
      exact ⟨by omega, rfl, h2.2, h2.1⟩
    · cases e
theorem mpI_in {C : Nat → Nat} {h : Nat} (hC : ∀ j, C j < 256) : in32 (mpI C h) := by
  unfold mpI
  cases hm : mpN C h with
  | some q =>
    have := (mpN_some hm).2.1
    have h2 : q < 256 := by rw [this]; exact hC _
    show in32 (q : Int)
    exact ⟨by omega, by omega⟩
  | none =>
    show in32 (-1)
    exact ⟨by omega, by omega⟩
theorem stC_in (r : Bool × DA) : (stC r).1 = 0 ∨ (stC r).1 = 4 := by
  obtain ⟨b, a⟩ := r
  cases b
  · exact Or.inr rfl
  · exact Or.inl rfl
theorem sMrg_in (a : DA) (lg h o : Nat) : 0 ≤ (sMrg a lg h o).1 ∧ (sMrg a lg h o).1 ≤ 4 := by
  unfold sMrg
  split
  · exact ⟨by show (0 : Int) ≤ 2; omega, by show (2 : Int) ≤ 4; omega⟩
  · rcases stC_in (sChg a (mgC a.1 (pb a.1 (entN a.1 (idx a.1 h)) 0) (if mgB a.1 h (pb a.1 (entN a.1 (idx a.1 h)) 0) then entN a.1 (idx a.1 h) else o) (if mgB a.1 h (pb a.1 (entN a.1 (idx a.1 h)) 0) then o else entN a.1 (idx a.1 h)) (mgF a.1 h (pb a.1 (entN a.1 (idx a.1 h)) 0)) (mgF a.1 h (pb a.1 (entN a.1 (idx a.1 h)) 0) + 2 ^ (a.1 0 - pb a.1 (entN a.1 (idx a.1 h)) 0)))) with g | g
    · omega
    · omega
theorem sRes_in (a : DA) (pg lg q : Nat) : 0 ≤ (sRes a pg lg q).1 ∧ (sRes a pg lg q).1 ≤ 4 := by
  unfold sRes
  split
  · exact ⟨by show (0 : Int) ≤ 1; omega, by show (1 : Int) ≤ 4; omega⟩
  · split
    · exact ⟨by show (0 : Int) ≤ 2; omega, by show (2 : Int) ≤ 4; omega⟩
    · split
      · exact ⟨by show (0 : Int) ≤ 0; omega, by show (0 : Int) ≤ 4; omega⟩
      · exact ⟨by show (0 : Int) ≤ 4; omega, by show (4 : Int) ≤ 4; omega⟩
theorem sSpl_in (a : DA) (pg lg p h : Nat) : 0 ≤ (sSpl a pg lg p h).1 ∧ (sSpl a pg lg p h).1 ≤ 4 := by
  unfold sSpl
  split
  · exact ⟨by show (0 : Int) ≤ 1; omega, by show (1 : Int) ≤ 4; omega⟩
  · split
    · exact ⟨by show (0 : Int) ≤ 2; omega, by show (2 : Int) ≤ 4; omega⟩
    · split
      · exact ⟨by show (0 : Int) ≤ 0; omega, by show (0 : Int) ≤ 4; omega⟩
      · exact ⟨by show (0 : Int) ≤ 4; omega, by show (4 : Int) ≤ 4; omega⟩
set_option maxHeartbeats 1000000 in
set_option maxRecDepth 20000 in
theorem lp_X4_mergeAll {D : va_G} {cI cB cJ cZ : ClassId} {x : Kx} {hx hd hc hk hch hb hbb hh ht ha hj hi hjb hib : Nat} {an : Int} {pg lg : Nat} {K : Nat → Nat} {H : Int} {h : Nat} {INV : (Nat → Nat) → Prop} {a0 : DA} (k : Kf x cX4_mergeAll 5 yX4_mergeAll.cls (some .int) D (TY cI cB cJ cZ) ({ frames := 6, cells := 0, slots := 0, locals := 165 })) (hq : isU x D [hx, hd, hc, hk, hch, hb, hbb, hj, hjb, hi, hib] (fun r w1 => ∃ s2 C2 wt2 al2 dn2 ko2 fb2 fj2 fi2, sMA lg h 64 a0 = (s2, C2, wt2, al2, dn2) ∧ KS ko2 K C2 pg lg ∧ in32 al2 ∧ r = some (.int (iI s2)) ∧ w1 = [oHash hx hd hch hb hh ht ha an, oDisk hd hc hk ko2 pg lg wt2 al2 dn2, aN cI hc 65280 C2, aN cI hk 255 K, oChange hch hd hj hi, oPage hb hbb, aN cI hbb 256 fb2, oPage hj hjb, aN cI hjb 256 fj2, oPage hi hib, aN cI hib 256 fi2])) (hH : H = (h : Int)) (hh9 : h < 65536) (hI : ∀ C, INV C → EOK C pg lg) (hM : ∀ C wt al dn C2 wt2 al2 dn2 o, INV C → mpN C h = some o → sMrg (C, wt, al, dn) lg h o = (0, C2, wt2, al2, dn2) → INV C2) : ∀ (m : Nat) (i : Nat) (I : Int) (C : Nat → Nat) (wt al dn ko : Int) (fb fj fi : Nat → Nat), 64 < i + m → i ≤ 64 → I = (i : Int) → INV C → sMA lg h 64 a0 = sMA lg h (64 - i) (C, wt, al, dn) → KS ko K C pg lg → in32 al → Vw x 5 (fun q => q ∈ [hx, hd, hc, hk, hch, hb, hbb, hj, hjb, hi, hib]) D true 0 0 [oHash hx hd hch hb hh ht ha an, oDisk hd hc hk ko pg lg wt al dn, aN cI hc 65280 C, aN cI hk 255 K, oChange hch hd hj hi, oPage hb hbb, aN cI hbb 256 fb, oPage hj hjb, aN cI hjb 256 fj, oPage hi hib, aN cI hib 256 fi] 2 [(0, .ref hx), (1, .int (iI H)), (2, .int (iI I))] [] := by
  intro m
  induction m with
  | zero => intro i I C wt al dn ko fb fj fi hm hi9 e1 hinv e2 hks hal; omega
  | succ m ih =>
    intro i I C wt al dn ko fb fj fi hm hi9 e1 hinv e2 hks hal
    obtain ⟨hw, hlp, h14, hE⟩ := hI C hinv
    obtain ⟨w1, w2, w3, w4, w5, w6, w7⟩ := id hw
    have hE0 := hE _ (idx_lt hh9 w4)
    refine v_iload_n (n := 3) k dX4_mergeAll_2 rfl rfl ?_
    refine v_bipush (n := 5) k dX4_mergeAll_3 (by decide) rfl ?_
    refine v_icmp_ge (n := 8) (t := 43) k (⟨by omega, by omega⟩) (⟨by omega, by omega⟩) dX4_mergeAll_5 (by decide) rfl (fun c_5 => ?_) (fun c_5 => ?_)
    · refine v_iconst (n := 44) k dX4_mergeAll_43 rfl ?_
      refine v_iretU k hq ?_ rfl dX4_mergeAll_44
      have e9 : 64 - i = 0 := by omega
      refine ⟨0, C, wt, al, dn, ko, _, _, _, ?_, hks, hal, rfl, rfl⟩
      rw [e2, e9]
      rfl
    · have hmr : 64 - i = (64 - (i + 1)) + 1 := by omega
      refine v_aload_n (n := 9) k dX4_mergeAll_8 rfl rfl ?_
      refine v_iload_n (n := 10) k dX4_mergeAll_9 rfl rfl ?_
      refine v_rdVi (n := 13) k [0, 1, 2] 0 (z_X4_mergePartner (hbb := 0) hw hH hh9 (fun i hi => (hE i hi).2.1) hE0.2.2.2) miX4_mergePartner ml_X4_254 (by decide) (by decide) rfl (by decide) rfl rfl rfl rfl (Nat.le_of_ble_eq_true rfl) ⟨Nat.zero_le _, Nat.zero_le _⟩ dX4_mergeAll_10 rfl ?_
      refine v_istore_n (n := 14) k dX4_mergeAll_13 rfl (by decide) rfl rfl ?_
      refine v_iload_n (n := 15) k dX4_mergeAll_14 rfl rfl ?_
      refine v_iconst (n := 16) k dX4_mergeAll_15 rfl ?_
      refine v_icmp_ne (n := 19) (t := 21) k (mpI_in w3) (⟨by omega, by omega⟩) dX4_mergeAll_16 (by decide) rfl (fun c_16 => ?_) (fun c_16 => ?_)
      · obtain ⟨o, hmo⟩ : ∃ o, mpN C h = some o := by
          cases hm9 : mpN C h with
          | some o => exact ⟨o, rfl⟩
          | none => exact absurd (show mpI C h = -1 by unfold mpI; rw [hm9]) c_16
        have hoI : mpI C h = (o : Int) := by unfold mpI; rw [hmo]
        obtain ⟨ho1, ho2, ho3, ho4⟩ := mpN_some hmo
        have ho9 : lg + 2 ≤ o ∧ o < pg ∧ WB C o ∧ pb C o 0 ≤ C 0 := by
          rw [ho2]
          exact hE _ (Nat.xor_lt_two_pow (idx_lt hh9 w4) (Nat.pow_lt_pow_right (by decide) (by omega)))
        refine v_aload_n (n := 22) k dX4_mergeAll_21 rfl rfl ?_
        refine v_iload_n (n := 23) k dX4_mergeAll_22 rfl rfl ?_
        refine v_iload_n (n := 24) k dX4_mergeAll_23 rfl rfl ?_
        refine v_upV (n := 27) k [0, 1, 2, 3, 4, 5, 6, 7, 8, 9, 10] 0 (z_X4_merge hw hlp (o := o) hoI ho9.1 ho9.2.1 hH hh9 hE0.1 hE0.2.1 hE0.2.2.1 ho9.2.2.1 ho1 hE0.2.2.2 ho3 hks hal) miX4_merge ml_X4_257 (by decide) (by decide) rfl (by decide) rfl rfl rfl rfl (Nat.le_of_ble_eq_true rfl) ⟨Nat.zero_le _, Nat.zero_le _⟩ dX4_mergeAll_24 rfl ?_
        rintro _ _ ⟨s6, C6, wt6, al6, dn6, ko6, fb6, fj6, fi6, hs6, hks6, hal6, rfl, rfl⟩
        dsimp only [wput, List.set, Option.toList, List.nil_append, List.cons_append]
        have hsi := sMrg_in (C, wt, al, dn) lg h o
        rw [hs6] at hsi
        obtain ⟨hsi1, hsi2⟩ := hsi
        have hsi1 : 0 ≤ s6 := hsi1
        have hsi2 : s6 ≤ 4 := hsi2
        refine v_istore (n := 29) k dX4_mergeAll_27 rfl (by decide) rfl rfl ?_
        refine v_iload (n := 31) k dX4_mergeAll_29 rfl rfl ?_
        refine v_if_eq (n := 34) (t := 37) k (⟨by omega, by omega⟩) dX4_mergeAll_31 (by decide) rfl (fun c_31 => ?_) (fun c_31 => ?_)
        · refine v_iinc (n := 40) k dX4_mergeAll_37 rfl (by decide) rfl rfl rfl ?_
          refine v_goto (t := 2) k dX4_mergeAll_40 (by decide) ?_
          have hs0 : s6 = 0 := c_31
          subst hs0
          refine v_lvf [(0, .ref hx), (1, .int (iI H)), (2, .int (iI (I + 1)))] ⟨rfl, rfl, rfl, trivial⟩ ?_
          refine ih (i + 1) _ _ _ _ _ _ _ _ _ (by omega) (by omega) (by omega) (hM _ _ _ _ _ _ _ _ _ hinv hmo hs6) ?_ hks6 hal6
          rw [e2, hmr, sMA]
          rw [show mpN (C, wt, al, dn).1 h = some o from hmo]
          show (if (sMrg (C, wt, al, dn) lg h o).1 = 0 then sMA lg h _ (sMrg (C, wt, al, dn) lg h o).2 else _) = _
          rw [hs6, if_pos rfl]
        · refine v_iload (n := 36) k dX4_mergeAll_34 rfl rfl ?_
          refine v_iretU k hq ?_ rfl dX4_mergeAll_36
          refine ⟨s6, C6, wt6, al6, dn6, ko6, _, _, _, ?_, hks6, hal6, rfl, rfl⟩
          rw [e2, hmr, sMA]
          rw [show mpN (C, wt, al, dn).1 h = some o from hmo]
          show (if (sMrg (C, wt, al, dn) lg h o).1 = 0 then sMA lg h _ (sMrg (C, wt, al, dn) lg h o).2 else _) = _
          rw [hs6, if_neg c_31]
      · refine v_iconst (n := 20) k dX4_mergeAll_19 rfl ?_
        refine v_iretU k hq ?_ rfl dX4_mergeAll_20
        have hmn : mpN C h = none := by
          cases hm9 : mpN C h with
          | none => rfl
          | some o =>
            have : mpI C h = (o : Int) := by unfold mpI; rw [hm9]
            omega
        refine ⟨0, C, wt, al, dn, ko, _, _, _, ?_, hks, hal, rfl, rfl⟩
        rw [e2, hmr, sMA]
        rw [show mpN (C, wt, al, dn).1 h = none from hmn]
set_option maxHeartbeats 1000000 in
set_option maxRecDepth 20000 in
theorem z_X4_mergeAll {D : va_G} {cI cB cJ cZ : ClassId} {hx hd hc hk hch hb hbb hh ht ha hj hi hjb hib : Nat} {an : Int} {pg lg : Nat} {K : Nat → Nat} {H : Int} {h : Nat} {INV : (Nat → Nat) → Prop} {C : Nat → Nat} {wt al dn ko : Int} {fb fj fi : Nat → Nat} (hH : H = (h : Int)) (hh9 : h < 65536) (hI : ∀ C, INV C → EOK C pg lg) (hM : ∀ C wt al dn C2 wt2 al2 dn2 o, INV C → mpN C h = some o → sMrg (C, wt, al, dn) lg h o = (0, C2, wt2, al2, dn2) → INV C2) (hinv : INV C) (hks : KS ko K C pg lg) (hal : in32 al) : ∀ l, Up l yX4_mergeAll cX4_mergeAll 5 (some .int) ({ frames := 6, cells := 0, slots := 0, locals := 165 }) D (TY cI cB cJ cZ) [.ref hx, .int (iI H)] [oHash hx hd hch hb hh ht ha an, oDisk hd hc hk ko pg lg wt al dn, aN cI hc 65280 C, aN cI hk 255 K, oChange hch hd hj hi, oPage hb hbb, aN cI hbb 256 fb, oPage hj hjb, aN cI hjb 256 fj, oPage hi hib, aN cI hib 256 fi] (fun r w1 => ∃ s2 C2 wt2 al2 dn2 ko2 fb2 fj2 fi2, sMA lg h 64 (C, wt, al, dn) = (s2, C2, wt2, al2, dn2) ∧ KS ko2 K C2 pg lg ∧ in32 al2 ∧ r = some (.int (iI s2)) ∧ w1 = [oHash hx hd hch hb hh ht ha an, oDisk hd hc hk ko2 pg lg wt2 al2 dn2, aN cI hc 65280 C2, aN cI hk 255 K, oChange hch hd hj hi, oPage hb hbb, aN cI hbb 256 fb2, oPage hj hjb, aN cI hjb 256 fj2, oPage hi hib, aN cI hib 256 fi2]) := by
  intro l
  refine Up_of (by decide) (Nat.le_of_ble_eq_true rfl) (fun x k hq => ?_)
  refine v_iconst (n := 1) k dX4_mergeAll_0 rfl ?_
  refine v_istore_n (n := 2) k dX4_mergeAll_1 rfl (by decide) rfl rfl ?_
  exact lp_X4_mergeAll (a0 := (C, wt, al, dn)) k hq hH hh9 hI hM 65 0 _ _ _ _ _ _ _ _ _ (by omega) (by omega) rfl hinv rfl hks hal
set_option maxHeartbeats 1000000 in
set_option maxRecDepth 20000 in
theorem lp_X4_halveAll {D : va_G} {cI cB cJ cZ : ClassId} {x : Kx} {hx hd hc hk hch hb hbb hh hhb ht ha hj hi hjb hib : Nat} {an : Int} {pg lg : Nat} {INV : (Nat → Nat) → Prop} {a0 : DA} (k : Kf x cX4_halveAll 4 yX4_halveAll.cls (some .int) D (TY cI cB cJ cZ) ({ frames := 6, cells := 0, slots := 0, locals := 152 })) (hq : isU x D [hx, hd, hc, hk, hch, hb, hbb, hh, hhb, hj, hjb, hi, hib] (fun r w1 => ∃ s2 C2 wt2 al2 dn2 ko2 K2 fb2 fh2 fj2 fi2, sHA pg lg 64 a0 = (s2, C2, wt2, al2, dn2) ∧ KS ko2 K2 C2 pg lg ∧ in32 al2 ∧ r = some (.int (iI s2)) ∧ w1 = [oHash hx hd hch hb hh ht ha an, oDisk hd hc hk ko2 pg lg wt2 al2 dn2, aN cI hc 65280 C2, aN cI hk 255 K2, oChange hch hd hj hi, oPage hb hbb, aN cI hbb 256 fb2, oPage hh hhb, aN cI hhb 256 fh2, oPage hj hjb, aN cI hjb 256 fj2, oPage hi hib, aN cI hib 256 fi2])) (hI : ∀ C, INV C → EOK C pg lg) (hM : ∀ C wt al dn C2 wt2 al2 dn2, INV C → C 0 ≠ 0 → hbD C pg lg (C 0) = false → sRes (C, wt, al, dn) pg lg (C 0 - 1) = (0, C2, wt2, al2, dn2) → INV C2) : ∀ (m : Nat) (i : Nat) (I : Int) (C : Nat → Nat) (wt al dn ko : Int) (K fb fh fj fi : Nat → Nat), 64 < i + m → i ≤ 64 → I = (i : Int) → INV C → sHA pg lg 64 a0 = sHA pg lg (64 - i) (C, wt, al, dn) → KS ko K C pg lg → in32 al → Vw x 4 (fun q => q ∈ [hx, hd, hc, hk, hch, hb, hbb, hh, hhb, hj, hjb, hi, hib]) D true 0 0 [oHash hx hd hch hb hh ht ha an, oDisk hd hc hk ko pg lg wt al dn, aN cI hc 65280 C, aN cI hk 255 K, oChange hch hd hj hi, oPage hb hbb, aN cI hbb 256 fb, oPage hh hhb, aN cI hhb 256 fh, oPage hj hjb, aN cI hjb 256 fj, oPage hi hib, aN cI hib 256 fi] 2 [(0, .ref hx), (1, .int (iI I))] [] := by
  intro m
  induction m with
  | zero => intro i I C wt al dn ko K fb fh fj fi hm hi9 e1 hinv e2 hks hal; omega
  | succ m ih =>
    intro i I C wt al dn ko K fb fh fj fi hm hi9 e1 hinv e2 hks hal
    obtain ⟨hw, hlp, h14, hE⟩ := hI C hinv
    obtain ⟨w1, w2, w3, w4, w5, w6, w7⟩ := id hw
    refine v_iload_n (n := 3) k dX4_halveAll_2 rfl rfl ?_
    refine v_bipush (n := 5) k dX4_halveAll_3 (by decide) rfl ?_
    refine v_icmp_ge (n := 8) (t := 62) k (⟨by omega, by omega⟩) (⟨by omega, by omega⟩) dX4_halveAll_5 (by decide) rfl (fun c_5 => ?_) (fun c_5 => ?_)
    · refine v_iconst (n := 63) k dX4_halveAll_62 rfl ?_
      refine v_iretU k hq ?_ rfl dX4_halveAll_63
      have e9 : 64 - i = 0 := by omega
      refine ⟨0, C, wt, al, dn, ko, K, _, _, _, _, ?_, hks, hal, rfl, rfl⟩
      rw [e2, e9]
      rfl
    · have hmr : 64 - i = (64 - (i + 1)) + 1 := by omega
      refine v_aload_n (n := 9) k dX4_halveAll_8 rfl rfl ?_
      refine v_get (n := 12) k ciX4 0 0 (by decide) fl_X4_10 rfl rfl dX4_halveAll_9 rfl ?_
      refine v_rdVi (n := 15) k [1, 2] 1 (z_X1_depth hw) miX1_depth ml_X4_160 (by decide) (by decide) rfl (by decide) rfl rfl rfl rfl (Nat.le_of_ble_eq_true rfl) ⟨Nat.zero_le _, Nat.zero_le _⟩ dX4_halveAll_12 rfl ?_
      refine v_istore_n (n := 16) k dX4_halveAll_15 rfl (by decide) rfl rfl ?_
      refine v_iload_n (n := 17) k dX4_halveAll_16 rfl rfl ?_
      refine v_if_le (n := 20) (t := 31) k (⟨by omega, by omega⟩) dX4_halveAll_17 (by decide) rfl (fun c_17 => ?_) (fun c_17 => ?_)
      · refine v_iconst (n := 32) k dX4_halveAll_31 rfl ?_
        refine v_iretU k hq ?_ rfl dX4_halveAll_32
        refine ⟨0, C, wt, al, dn, ko, K, _, _, _, _, ?_, hks, hal, rfl, rfl⟩
        rw [e2, hmr, sHA]
        rw [if_pos (Or.inl (show (C, wt, al, dn).1 0 = 0 by show C 0 = 0; omega))]
      · refine v_aload_n (n := 21) k dX4_halveAll_20 rfl rfl ?_
        refine v_get (n := 24) k ciX4 0 0 (by decide) fl_X4_10 rfl rfl dX4_halveAll_21 rfl ?_
        refine v_iload_n (n := 25) k dX4_halveAll_24 rfl rfl ?_
        refine v_upV (n := 28) k [1, 2, 3] 1 (z_X1_hasBucketOfDepth hw w7 (d := C 0) rfl (by omega) hks) miX1_hasBucketOfDepth ml_X4_260 (by decide) (by decide) rfl (by decide) rfl rfl rfl rfl (Nat.le_of_ble_eq_true rfl) ⟨Nat.zero_le _, Nat.zero_le _⟩ dX4_halveAll_25 rfl ?_
        rintro _ _ ⟨rfl, ko2, K2, hks2, rfl⟩
        dsimp only [wput, List.set, Option.toList, List.nil_append, List.cons_append]
        refine v_if_eq (n := 31) (t := 33) k (⟨by cases hbD C pg lg (C 0) <;> decide, by cases hbD C pg lg (C 0) <;> decide⟩) dX4_halveAll_28 (by decide) rfl (fun c_28 => ?_) (fun c_28 => ?_)
        · have hbf : hbD C pg lg (C 0) = false := by
            cases hb0 : hbD C pg lg (C 0) with
            | false => rfl
            | true => rw [bI_t hb0] at c_28; omega
          have hd0 : C 0 ≠ 0 := by omega
          refine v_aload_n (n := 34) k dX4_halveAll_33 rfl rfl ?_
          refine v_iload_n (n := 35) k dX4_halveAll_34 rfl rfl ?_
          refine v_iconst (n := 36) k dX4_halveAll_35 rfl ?_
          refine v_isub (n := 37) k dX4_halveAll_36 rfl ?_
          refine v_upV (n := 40) k [0, 1, 2, 3, 4, 5, 6, 7, 8, 9, 10, 11, 12] 0 (z_X4_resizeDirectory hw hlp (q := C 0 - 1) (by omega) (Or.inr (by omega)) (by omega) hks2 hal) miX4_resizeDirectory ml_X4_183 (by decide) (by decide) rfl (by decide) rfl rfl rfl rfl (Nat.le_of_ble_eq_true rfl) ⟨Nat.zero_le _, Nat.zero_le _⟩ dX4_halveAll_37 rfl ?_
          rintro _ _ ⟨s6, C6, wt6, al6, dn6, ko6, K6, fb6, fh6, fj6, fi6, hs6, hks6, hal6, rfl, rfl⟩
          dsimp only [wput, List.set, Option.toList, List.nil_append, List.cons_append]
          have hsi := sRes_in (C, wt, al, dn) pg lg (C 0 - 1)
          rw [hs6] at hsi
          obtain ⟨hsi1, hsi2⟩ := hsi
          have hsi1 : 0 ≤ s6 := hsi1
          have hsi2 : s6 ≤ 4 := hsi2
          refine v_istore_n (n := 41) k dX4_halveAll_40 rfl (by decide) rfl rfl ?_
          refine v_iload_n (n := 42) k dX4_halveAll_41 rfl rfl ?_
          refine v_if_eq (n := 45) (t := 56) k (⟨by omega, by omega⟩) dX4_halveAll_42 (by decide) rfl (fun c_42 => ?_) (fun c_42 => ?_)
          · refine v_iinc (n := 59) k dX4_halveAll_56 rfl (by decide) rfl rfl rfl ?_
            refine v_goto (t := 2) k dX4_halveAll_59 (by decide) ?_
            have hs0 : s6 = 0 := c_42
            subst hs0
            refine v_lvf [(0, .ref hx), (1, .int (iI (I + 1)))] ⟨rfl, rfl, trivial⟩ ?_
            refine ih (i + 1) _ _ _ _ _ _ _ _ _ _ _ (by omega) (by omega) (by omega) (hM _ _ _ _ _ _ _ _ hinv hd0 hbf hs6) ?_ hks6 hal6
            rw [e2, hmr, sHA]
            rw [if_neg (show ¬ ((C, wt, al, dn).1 0 = 0 ∨ hbD (C, wt, al, dn).1 pg lg ((C, wt, al, dn).1 0) = true) from fun h => by
              rcases h with h | h
              · exact hd0 h
              · rw [show hbD (C, wt, al, dn).1 pg lg ((C, wt, al, dn).1 0) = false from hbf] at h
                cases h)]
            show (if (sRes (C, wt, al, dn) pg lg (C 0 - 1)).1 = 0 then sHA pg lg _ (sRes (C, wt, al, dn) pg lg (C 0 - 1)).2 else (if (sRes (C, wt, al, dn) pg lg (C 0 - 1)).1 = 4 then (4 : Int) else 0, (sRes (C, wt, al, dn) pg lg (C 0 - 1)).2)) = _
            rw [hs6, if_pos rfl]
          · refine v_iload_n (n := 46) k dX4_halveAll_45 rfl rfl ?_
            refine v_iconst (n := 47) k dX4_halveAll_46 rfl ?_
            refine v_icmp_ne (n := 50) (t := 54) k (⟨by omega, by omega⟩) (⟨by omega, by omega⟩) dX4_halveAll_47 (by decide) rfl (fun c_47 => ?_) (fun c_47 => ?_)
            · refine v_iconst (n := 55) k dX4_halveAll_54 rfl ?_
              refine v_iretU k hq ?_ rfl dX4_halveAll_55
              refine ⟨0, C6, wt6, al6, dn6, ko6, K6, _, _, _, _, ?_, hks6, hal6, rfl, rfl⟩
              rw [e2, hmr, sHA]
              rw [if_neg (show ¬ ((C, wt, al, dn).1 0 = 0 ∨ hbD (C, wt, al, dn).1 pg lg ((C, wt, al, dn).1 0) = true) from fun h => by
                rcases h with h | h
                · exact hd0 h
                · rw [show hbD (C, wt, al, dn).1 pg lg ((C, wt, al, dn).1 0) = false from hbf] at h
                  cases h)]
              show (if (sRes (C, wt, al, dn) pg lg (C 0 - 1)).1 = 0 then sHA pg lg _ (sRes (C, wt, al, dn) pg lg (C 0 - 1)).2 else (if (sRes (C, wt, al, dn) pg lg (C 0 - 1)).1 = 4 then (4 : Int) else 0, (sRes (C, wt, al, dn) pg lg (C 0 - 1)).2)) = _
              rw [hs6, if_neg c_42, if_neg (show ¬ (s6, C6, wt6, al6, dn6).1 = 4 from c_47)]
            · refine v_iconst (n := 51) k dX4_halveAll_50 rfl ?_
              refine v_goto (t := 55) k dX4_halveAll_51 (by decide) ?_
              refine v_iretU k hq ?_ rfl dX4_halveAll_55
              refine ⟨4, C6, wt6, al6, dn6, ko6, K6, _, _, _, _, ?_, hks6, hal6, rfl, rfl⟩
              rw [e2, hmr, sHA]
              rw [if_neg (show ¬ ((C, wt, al, dn).1 0 = 0 ∨ hbD (C, wt, al, dn).1 pg lg ((C, wt, al, dn).1 0) = true) from fun h => by
                rcases h with h | h
                · exact hd0 h
                · rw [show hbD (C, wt, al, dn).1 pg lg ((C, wt, al, dn).1 0) = false from hbf] at h
                  cases h)]
              show (if (sRes (C, wt, al, dn) pg lg (C 0 - 1)).1 = 0 then sHA pg lg _ (sRes (C, wt, al, dn) pg lg (C 0 - 1)).2 else (if (sRes (C, wt, al, dn) pg lg (C 0 - 1)).1 = 4 then (4 : Int) else 0, (sRes (C, wt, al, dn) pg lg (C 0 - 1)).2)) = _
              rw [hs6, if_neg c_42, if_pos (show (s6, C6, wt6, al6, dn6).1 = 4 from c_47)]
        · refine v_iconst (n := 32) k dX4_halveAll_31 rfl ?_
          refine v_iretU k hq ?_ rfl dX4_halveAll_32
          refine ⟨0, C, wt, al, dn, ko2, K2, _, _, _, _, ?_, hks2, hal, rfl, rfl⟩
          rw [e2, hmr, sHA]
          have hbt : hbD C pg lg (C 0) = true := by
            cases hb0 : hbD C pg lg (C 0) with
            | true => rfl
            | false => exact absurd (bI_f hb0) c_28
          rw [if_pos (Or.inr hbt)]
set_option maxHeartbeats 1000000 in
set_option maxRecDepth 20000 in
theorem z_X4_halveAll {D : va_G} {cI cB cJ cZ : ClassId} {hx hd hc hk hch hb hbb hh hhb ht ha hj hi hjb hib : Nat} {an : Int} {pg lg : Nat} {INV : (Nat → Nat) → Prop} {C : Nat → Nat} {wt al dn ko : Int} {K fb fh fj fi : Nat → Nat} (hI : ∀ C, INV C → EOK C pg lg) (hM : ∀ C wt al dn C2 wt2 al2 dn2, INV C → C 0 ≠ 0 → hbD C pg lg (C 0) = false → sRes (C, wt, al, dn) pg lg (C 0 - 1) = (0, C2, wt2, al2, dn2) → INV C2) (hinv : INV C) (hks : KS ko K C pg lg) (hal : in32 al) : ∀ l, Up l yX4_halveAll cX4_halveAll 4 (some .int) ({ frames := 6, cells := 0, slots := 0, locals := 152 }) D (TY cI cB cJ cZ) [.ref hx] [oHash hx hd hch hb hh ht ha an, oDisk hd hc hk ko pg lg wt al dn, aN cI hc 65280 C, aN cI hk 255 K, oChange hch hd hj hi, oPage hb hbb, aN cI hbb 256 fb, oPage hh hhb, aN cI hhb 256 fh, oPage hj hjb, aN cI hjb 256 fj, oPage hi hib, aN cI hib 256 fi] (fun r w1 => ∃ s2 C2 wt2 al2 dn2 ko2 K2 fb2 fh2 fj2 fi2, sHA pg lg 64 (C, wt, al, dn) = (s2, C2, wt2, al2, dn2) ∧ KS ko2 K2 C2 pg lg ∧ in32 al2 ∧ r = some (.int (iI s2)) ∧ w1 = [oHash hx hd hch hb hh ht ha an, oDisk hd hc hk ko2 pg lg wt2 al2 dn2, aN cI hc 65280 C2, aN cI hk 255 K2, oChange hch hd hj hi, oPage hb hbb, aN cI hbb 256 fb2, oPage hh hhb, aN cI hhb 256 fh2, oPage hj hjb, aN cI hjb 256 fj2, oPage hi hib, aN cI hib 256 fi2]) := by
  intro l
  refine Up_of (by decide) (Nat.le_of_ble_eq_true rfl) (fun x k hq => ?_)
  refine v_iconst (n := 1) k dX4_halveAll_0 rfl ?_
  refine v_istore_n (n := 2) k dX4_halveAll_1 rfl (by decide) rfl rfl ?_
  exact lp_X4_halveAll (a0 := (C, wt, al, dn)) k hq hI hM 65 0 _ _ _ _ _ _ _ _ _ _ _ (by omega) (by omega) rfl hinv rfl hks hal
set_option maxHeartbeats 1000000 in
set_option maxRecDepth 20000 in
theorem lp_X4_makePlace {D : va_G} {cI cB cJ cZ : ClassId} {x : Kx} {hx hd hc hk hch hb hbb hh hhb ht htb ha hj hi hjb hib : Nat} {an sz : Int} {pg lg : Nat} {T : Nat → Nat} {H KK Z : Int} {h ks z : Nat} {INV : (Nat → Nat) → Prop} {a0 : DA} (k : Kf x cX4_makePlace 8 yX4_makePlace.cls (some .int) D (TY cI cB cJ cZ) ({ frames := 6, cells := 0, slots := 0, locals := 163 })) (hq : isU x D [hx, hd, hc, hk, hch, hb, hbb, hh, hhb, hj, hjb, hi, hib, ht, htb] (fun r w1 => ∃ s2 C2 wt2 al2 dn2 ko2 K2 fb2 fh2 fj2 fi2, sMP pg lg h T ks z 64 a0 = (s2, C2, wt2, al2, dn2) ∧ KS ko2 K2 C2 pg lg ∧ in32 al2 ∧ r = some (.int (iI s2)) ∧ w1 = [oHash hx hd hch hb hh ht ha an, oDisk hd hc hk ko2 pg lg wt2 al2 dn2, aN cI hc 65280 C2, aN cI hk 255 K2, oChange hch hd hj hi, oPage hb hbb, aN cI hbb 256 fb2, oPage hh hhb, aN cI hhb 256 fh2, oPage hj hjb, aN cI hjb 256 fj2, oPage hi hib, aN cI hib 256 fi2, oTape ht htb sz, aN cI htb 48 T])) (hH : H = (h : Int)) (hh9 : h < 65536) (hK : KK = (ks : Int)) (hks9 : ks ≤ 48) (hZ : Z = (z : Int)) (hz : z ≤ 48) (hT : ∀ j, T j < 256) (hI : ∀ C, INV C → EOK C pg lg) (hM : ∀ C wt al dn C2 wt2 al2 dn2, INV C → sSt (C, wt, al, dn) pg lg h = (0, C2, wt2, al2, dn2) → INV C2) : ∀ (m : Nat) (i : Nat) (I : Int) (C : Nat → Nat) (wt al dn ko : Int) (K fb fh fj fi : Nat → Nat), 64 < i + m → i ≤ 64 → I = (i : Int) → INV C → sMP pg lg h T ks z 64 a0 = sMP pg lg h T ks z (64 - i) (C, wt, al, dn) → KS ko K C pg lg → in32 al → Vw x 8 (fun q => q ∈ [hx, hd, hc, hk, hch, hb, hbb, hh, hhb, hj, hjb, hi, hib, ht, htb]) D true 0 0 [oHash hx hd hch hb hh ht ha an, oDisk hd hc hk ko pg lg wt al dn, aN cI hc 65280 C, aN cI hk 255 K, oChange hch hd hj hi, oPage hb hbb, aN cI hbb 256 fb, oPage hh hhb, aN cI hhb 256 fh, oPage hj hjb, aN cI hjb 256 fj, oPage hi hib, aN cI hib 256 fi, oTape ht htb sz, aN cI htb 48 T] 3 [(0, .ref hx), (1, .int (iI H)), (2, .int (iI KK)), (3, .int (iI Z)), (4, .int (iI I))] [] := by
  intro m
  induction m with
  | zero => intro i I C wt al dn ko K fb fh fj fi hm hi9 e1 hinv e2 hks hal; omega
  | succ m ih =>
    intro i I C wt al dn ko K fb fh fj fi hm hi9 e1 hinv e2 hks hal
    obtain ⟨hw, hlp, h14, hE⟩ := hI C hinv
    obtain ⟨w1, w2, w3, w4, w5, w6, w7⟩ := id hw
    have hE0 := hE _ (idx_lt hh9 w4)
    obtain ⟨p, hgp⟩ : ∃ p, entN C (idx C h) = p := ⟨_, rfl⟩
    rw [hgp] at hE0
    refine v_iload (n := 5) k dX4_makePlace_3 rfl rfl ?_
    refine v_bipush (n := 7) k dX4_makePlace_5 (by decide) rfl ?_
    refine v_icmp_ge (n := 10) (t := 106) k (⟨by omega, by omega⟩) (⟨by omega, by omega⟩) dX4_makePlace_7 (by decide) rfl (fun c_7 => ?_) (fun c_7 => ?_)
    · refine v_iconst (n := 107) k dX4_makePlace_106 rfl ?_
      refine v_iretU k hq ?_ rfl dX4_makePlace_107
      have e9 : 64 - i = 0 := by omega
      refine ⟨1, C, wt, al, dn, ko, K, _, _, _, _, ?_, hks, hal, rfl, rfl⟩
      rw [e2, e9]
      rfl
    · have hmr : 64 - i = (64 - (i + 1)) + 1 := by omega
      refine v_aload_n (n := 11) k dX4_makePlace_10 rfl rfl ?_
      refine v_get (n := 14) k ciX4 0 0 (by decide) fl_X4_10 rfl rfl dX4_makePlace_11 rfl ?_
      refine v_iload_n (n := 15) k dX4_makePlace_14 rfl rfl ?_
      refine v_rdVi (n := 18) k [1, 2] 1 (z_X1_bucketOf hw (h := h) hH hh9) miX1_bucketOf ml_X4_104 (by decide) (by decide) rfl (by decide) rfl rfl rfl rfl (Nat.le_of_ble_eq_true rfl) ⟨Nat.zero_le _, Nat.zero_le _⟩ dX4_makePlace_15 rfl ?_
      rw [hgp]
      refine v_istore (n := 20) k dX4_makePlace_18 rfl (by decide) rfl rfl ?_
      refine v_aload_n (n := 21) k dX4_makePlace_20 rfl rfl ?_
      refine v_iload (n := 23) k dX4_makePlace_21 rfl rfl ?_
      refine v_iload_n (n := 24) k dX4_makePlace_23 rfl rfl ?_
      refine v_iload_n (n := 25) k dX4_makePlace_24 rfl rfl ?_
      refine v_rdVi (n := 28) k [0, 1, 2, 13, 14] 0 (z_X4_hasPlace (hbb := 0) (p := p) rfl hE0.2.1 w2 hE0.2.2.1 w3 hK hks9 hZ hz hT) miX4_hasPlace ml_X4_175 (by decide) (by decide) rfl (by decide) rfl rfl rfl rfl (Nat.le_of_ble_eq_true rfl) ⟨Nat.zero_le _, Nat.zero_le _⟩ dX4_makePlace_25 rfl ?_
      refine v_if_eq (n := 31) (t := 33) k (⟨by cases plc C p T ks z <;> decide, by cases plc C p T ks z <;> decide⟩) dX4_makePlace_28 (by decide) rfl (fun c_28 => ?_) (fun c_28 => ?_)
      · have hnp : ¬ plc C p T ks z = true := fun h8 => by rw [bI_t h8] at c_28; omega
        refine v_aload_n (n := 34) k dX4_makePlace_33 rfl rfl ?_
        refine v_get (n := 37) k ciX4 0 0 (by decide) fl_X4_10 rfl rfl dX4_makePlace_34 rfl ?_
        refine v_iload (n := 39) k dX4_makePlace_37 rfl rfl ?_
        refine v_iload_n (n := 40) k dX4_makePlace_39 rfl rfl ?_
        refine v_rdVi (n := 43) k [1, 2] 1 (z_X1_allHashesAre (p := p) rfl hE0.2.1 w2 hH hh9 hE0.2.2.1 w3) miX1_allHashesAre ml_X4_179 (by decide) (by decide) rfl (by decide) rfl rfl rfl rfl (Nat.le_of_ble_eq_true rfl) ⟨Nat.zero_le _, Nat.zero_le _⟩ dX4_makePlace_40 rfl ?_
        refine v_if_eq (n := 46) (t := 48) k (⟨by cases allH C p h <;> decide, by cases allH C p h <;> decide⟩) dX4_makePlace_43 (by decide) rfl (fun c_43 => ?_) (fun c_43 => ?_)
        · have hna : ¬ allH C p h = true := fun h8 => by rw [bI_t h8] at c_43; omega
          have hE04 := hE0.2.2.2
          refine v_aload_n (n := 49) k dX4_makePlace_48 rfl rfl ?_
          refine v_get (n := 52) k ciX4 0 0 (by decide) fl_X4_10 rfl rfl dX4_makePlace_49 rfl ?_
          refine v_rdVi (n := 55) k [1, 2] 1 (z_X1_depth hw) miX1_depth ml_X4_160 (by decide) (by decide) rfl (by decide) rfl rfl rfl rfl (Nat.le_of_ble_eq_true rfl) ⟨Nat.zero_le _, Nat.zero_le _⟩ dX4_makePlace_52 rfl ?_
          refine v_istore (n := 57) k dX4_makePlace_55 rfl (by decide) rfl rfl ?_
          refine v_aload_n (n := 58) k dX4_makePlace_57 rfl rfl ?_
          refine v_get (n := 61) k ciX4 0 0 (by decide) fl_X4_10 rfl rfl dX4_makePlace_58 rfl ?_
          refine v_iload (n := 63) k dX4_makePlace_61 rfl rfl ?_
          refine v_iconst (n := 64) k dX4_makePlace_63 rfl ?_
          refine v_rdVi (n := 67) k [1, 2] 1 (z_X1_at (p := p) (i := 0) rfl rfl hE0.2.1 (by omega) w2) miX1_at ml_X4_130 (by decide) (by decide) rfl (by decide) rfl rfl rfl rfl (Nat.le_of_ble_eq_true rfl) ⟨Nat.zero_le _, Nat.zero_le _⟩ dX4_makePlace_64 rfl ?_
          refine v_iload (n := 69) k dX4_makePlace_67 rfl rfl ?_
          refine v_icmp_ne (n := 72) (t := 83) k (⟨by omega, by omega⟩) (⟨by omega, by omega⟩) dX4_makePlace_69 (by decide) rfl (fun c_69 => ?_) (fun c_69 => ?_)
          · refine v_aload_n (n := 84) k dX4_makePlace_83 rfl rfl ?_
            refine v_iload (n := 86) k dX4_makePlace_84 rfl rfl ?_
            refine v_iload_n (n := 87) k dX4_makePlace_86 rfl rfl ?_
            refine v_upV (n := 90) k [0, 1, 2, 3, 4, 5, 6, 9, 10, 11, 12] 0 (z_X4_split hw hlp (p := p) (h := h) rfl hE0.1 hE0.2.1 hH hh9 hE0.2.2.1 (by omega) hks hal) miX4_split ml_X4_186 (by decide) (by decide) rfl (by decide) rfl rfl rfl rfl (Nat.le_of_ble_eq_true rfl) ⟨Nat.zero_le _, Nat.zero_le _⟩ dX4_makePlace_87 rfl ?_
            rintro _ _ ⟨s6, C6, wt6, al6, dn6, ko6, K6, fb6, fj6, fi6, hs6, hks6, hal6, rfl, rfl⟩
            dsimp only [wput, List.set, Option.toList, List.nil_append, List.cons_append]
            have hst : sSt (C, wt, al, dn) pg lg h = (s6, C6, wt6, al6, dn6) := by
              show (if pb C (entN C (idx C h)) 0 = C 0 then sRes (C, wt, al, dn) pg lg (C 0 + 1) else sSpl (C, wt, al, dn) pg lg (entN C (idx C h)) h) = _
              rw [hgp, if_neg (by omega)]
              exact hs6
            have hsi := sSpl_in (C, wt, al, dn) pg lg p h
            rw [hs6] at hsi
            obtain ⟨hsi1, hsi2⟩ := hsi
            have hsi1 : 0 ≤ s6 := hsi1
            have hsi2 : s6 ≤ 4 := hsi2
            refine v_istore (n := 92) k dX4_makePlace_90 rfl (by decide) rfl rfl ?_
            refine v_iload (n := 94) k dX4_makePlace_92 rfl rfl ?_
            refine v_if_eq (n := 97) (t := 100) k (⟨by omega, by omega⟩) dX4_makePlace_94 (by decide) rfl (fun c_94 => ?_) (fun c_94 => ?_)
            · refine v_iinc (n := 103) k dX4_makePlace_100 rfl (by decide) rfl rfl rfl ?_
              refine v_goto (t := 3) k dX4_makePlace_103 (by decide) ?_
              have hs0 : s6 = 0 := c_94
              subst hs0
              refine v_lvf [(0, .ref hx), (1, .int (iI H)), (2, .int (iI KK)), (3, .int (iI Z)), (4, .int (iI (I + 1)))] ⟨rfl, rfl, rfl, rfl, rfl, trivial⟩ ?_
              refine ih (i + 1) _ _ _ _ _ _ _ _ _ _ _ (by omega) (by omega) (by omega) (hM _ _ _ _ _ _ _ _ hinv hst) ?_ hks6 hal6
              rw [e2, hmr, sMP]
              rw [if_neg (show ¬ plc (C, wt, al, dn).1 (entN (C, wt, al, dn).1 (idx (C, wt, al, dn).1 h)) T ks z = true from by show ¬ plc C (entN C (idx C h)) T ks z = true; rw [hgp]; exact hnp), if_neg (show ¬ allH (C, wt, al, dn).1 (entN (C, wt, al, dn).1 (idx (C, wt, al, dn).1 h)) h = true from by show ¬ allH C (entN C (idx C h)) h = true; rw [hgp]; exact hna)]
              rw [hst, if_pos rfl]
            · refine v_iload (n := 99) k dX4_makePlace_97 rfl rfl ?_
              refine v_iretU k hq ?_ rfl dX4_makePlace_99
              refine ⟨s6, C6, wt6, al6, dn6, ko6, K6, _, _, _, _, ?_, hks6, hal6, rfl, rfl⟩
              rw [e2, hmr, sMP]
              rw [if_neg (show ¬ plc (C, wt, al, dn).1 (entN (C, wt, al, dn).1 (idx (C, wt, al, dn).1 h)) T ks z = true from by show ¬ plc C (entN C (idx C h)) T ks z = true; rw [hgp]; exact hnp), if_neg (show ¬ allH (C, wt, al, dn).1 (entN (C, wt, al, dn).1 (idx (C, wt, al, dn).1 h)) h = true from by show ¬ allH C (entN C (idx C h)) h = true; rw [hgp]; exact hna)]
              rw [hst, if_neg c_94]
          · refine v_aload_n (n := 73) k dX4_makePlace_72 rfl rfl ?_
            refine v_iload (n := 75) k dX4_makePlace_73 rfl rfl ?_
            refine v_iconst (n := 76) k dX4_makePlace_75 rfl ?_
            refine v_iadd (n := 77) k dX4_makePlace_76 rfl ?_
            refine v_upV (n := 80) k [0, 1, 2, 3, 4, 5, 6, 7, 8, 9, 10, 11, 12] 0 (z_X4_resizeDirectory hw hlp (q := C 0 + 1) (by omega) (Or.inl rfl) (by omega) hks hal) miX4_resizeDirectory ml_X4_183 (by decide) (by decide) rfl (by decide) rfl rfl rfl rfl (Nat.le_of_ble_eq_true rfl) ⟨Nat.zero_le _, Nat.zero_le _⟩ dX4_makePlace_77 rfl ?_
            rintro _ _ ⟨s6, C6, wt6, al6, dn6, ko6, K6, fb6, fh6, fj6, fi6, hs6, hks6, hal6, rfl, rfl⟩
            dsimp only [wput, List.set, Option.toList, List.nil_append, List.cons_append]
            refine v_goto (t := 90) k dX4_makePlace_80 (by decide) ?_
            have hst : sSt (C, wt, al, dn) pg lg h = (s6, C6, wt6, al6, dn6) := by
              show (if pb C (entN C (idx C h)) 0 = C 0 then sRes (C, wt, al, dn) pg lg (C 0 + 1) else sSpl (C, wt, al, dn) pg lg (entN C (idx C h)) h) = _
              rw [hgp, if_pos (by omega)]
              exact hs6
            have hsi := sRes_in (C, wt, al, dn) pg lg (C 0 + 1)
            rw [hs6] at hsi
            obtain ⟨hsi1, hsi2⟩ := hsi
            have hsi1 : 0 ≤ s6 := hsi1
            have hsi2 : s6 ≤ 4 := hsi2
            refine v_istore (n := 92) k dX4_makePlace_90 rfl (by decide) rfl rfl ?_
            refine v_iload (n := 94) k dX4_makePlace_92 rfl rfl ?_
            refine v_if_eq (n := 97) (t := 100) k (⟨by omega, by omega⟩) dX4_makePlace_94 (by decide) rfl (fun c_94 => ?_) (fun c_94 => ?_)
            · refine v_iinc (n := 103) k dX4_makePlace_100 rfl (by decide) rfl rfl rfl ?_
              refine v_goto (t := 3) k dX4_makePlace_103 (by decide) ?_
              have hs0 : s6 = 0 := c_94
              subst hs0
              refine v_lvf [(0, .ref hx), (1, .int (iI H)), (2, .int (iI KK)), (3, .int (iI Z)), (4, .int (iI (I + 1)))] ⟨rfl, rfl, rfl, rfl, rfl, trivial⟩ ?_
              refine ih (i + 1) _ _ _ _ _ _ _ _ _ _ _ (by omega) (by omega) (by omega) (hM _ _ _ _ _ _ _ _ hinv hst) ?_ hks6 hal6
              rw [e2, hmr, sMP]
              rw [if_neg (show ¬ plc (C, wt, al, dn).1 (entN (C, wt, al, dn).1 (idx (C, wt, al, dn).1 h)) T ks z = true from by show ¬ plc C (entN C (idx C h)) T ks z = true; rw [hgp]; exact hnp), if_neg (show ¬ allH (C, wt, al, dn).1 (entN (C, wt, al, dn).1 (idx (C, wt, al, dn).1 h)) h = true from by show ¬ allH C (entN C (idx C h)) h = true; rw [hgp]; exact hna)]
              rw [hst, if_pos rfl]
            · refine v_iload (n := 99) k dX4_makePlace_97 rfl rfl ?_
              refine v_iretU k hq ?_ rfl dX4_makePlace_99
              refine ⟨s6, C6, wt6, al6, dn6, ko6, K6, _, _, _, _, ?_, hks6, hal6, rfl, rfl⟩
              rw [e2, hmr, sMP]
              rw [if_neg (show ¬ plc (C, wt, al, dn).1 (entN (C, wt, al, dn).1 (idx (C, wt, al, dn).1 h)) T ks z = true from by show ¬ plc C (entN C (idx C h)) T ks z = true; rw [hgp]; exact hnp), if_neg (show ¬ allH (C, wt, al, dn).1 (entN (C, wt, al, dn).1 (idx (C, wt, al, dn).1 h)) h = true from by show ¬ allH C (entN C (idx C h)) h = true; rw [hgp]; exact hna)]
              rw [hst, if_neg c_94]
        · refine v_iconst (n := 47) k dX4_makePlace_46 rfl ?_
          refine v_iretU k hq ?_ rfl dX4_makePlace_47
          have hya : allH C p h = true := by
            cases h8 : allH C p h with
            | true => rfl
            | false => exact absurd (bI_f h8) c_43
          refine ⟨3, C, wt, al, dn, ko, K, _, _, _, _, ?_, hks, hal, rfl, rfl⟩
          rw [e2, hmr, sMP]
          rw [if_neg (show ¬ plc (C, wt, al, dn).1 (entN (C, wt, al, dn).1 (idx (C, wt, al, dn).1 h)) T ks z = true from by show ¬ plc C (entN C (idx C h)) T ks z = true; rw [hgp]; exact hnp), if_pos (show allH (C, wt, al, dn).1 (entN (C, wt, al, dn).1 (idx (C, wt, al, dn).1 h)) h = true from by show allH C (entN C (idx C h)) h = true; rw [hgp]; exact hya)]
      · refine v_iconst (n := 32) k dX4_makePlace_31 rfl ?_
        refine v_iretU k hq ?_ rfl dX4_makePlace_32
        have hyp : plc C p T ks z = true := by
          cases h8 : plc C p T ks z with
          | true => rfl
          | false => exact absurd (bI_f h8) c_28
        refine ⟨0, C, wt, al, dn, ko, K, _, _, _, _, ?_, hks, hal, rfl, rfl⟩
        rw [e2, hmr, sMP]
        rw [if_pos (show plc (C, wt, al, dn).1 (entN (C, wt, al, dn).1 (idx (C, wt, al, dn).1 h)) T ks z = true from by show plc C (entN C (idx C h)) T ks z = true; rw [hgp]; exact hyp)]
set_option maxHeartbeats 1000000 in
set_option maxRecDepth 20000 in
theorem z_X4_makePlace {D : va_G} {cI cB cJ cZ : ClassId} {hx hd hc hk hch hb hbb hh hhb ht htb ha hj hi hjb hib : Nat} {an sz : Int} {pg lg : Nat} {T : Nat → Nat} {H KK Z : Int} {h ks z : Nat} {INV : (Nat → Nat) → Prop} {C : Nat → Nat} {wt al dn ko : Int} {K fb fh fj fi : Nat → Nat} (hH : H = (h : Int)) (hh9 : h < 65536) (hK : KK = (ks : Int)) (hks9 : ks ≤ 48) (hZ : Z = (z : Int)) (hz : z ≤ 48) (hT : ∀ j, T j < 256) (hI : ∀ C, INV C → EOK C pg lg) (hM : ∀ C wt al dn C2 wt2 al2 dn2, INV C → sSt (C, wt, al, dn) pg lg h = (0, C2, wt2, al2, dn2) → INV C2) (hinv : INV C) (hks : KS ko K C pg lg) (hal : in32 al) : ∀ l, Up l yX4_makePlace cX4_makePlace 8 (some .int) ({ frames := 6, cells := 0, slots := 0, locals := 163 }) D (TY cI cB cJ cZ) [.ref hx, .int (iI H), .int (iI KK), .int (iI Z)] [oHash hx hd hch hb hh ht ha an, oDisk hd hc hk ko pg lg wt al dn, aN cI hc 65280 C, aN cI hk 255 K, oChange hch hd hj hi, oPage hb hbb, aN cI hbb 256 fb, oPage hh hhb, aN cI hhb 256 fh, oPage hj hjb, aN cI hjb 256 fj, oPage hi hib, aN cI hib 256 fi, oTape ht htb sz, aN cI htb 48 T] (fun r w1 => ∃ s2 C2 wt2 al2 dn2 ko2 K2 fb2 fh2 fj2 fi2, sMP pg lg h T ks z 64 (C, wt, al, dn) = (s2, C2, wt2, al2, dn2) ∧ KS ko2 K2 C2 pg lg ∧ in32 al2 ∧ r = some (.int (iI s2)) ∧ w1 = [oHash hx hd hch hb hh ht ha an, oDisk hd hc hk ko2 pg lg wt2 al2 dn2, aN cI hc 65280 C2, aN cI hk 255 K2, oChange hch hd hj hi, oPage hb hbb, aN cI hbb 256 fb2, oPage hh hhb, aN cI hhb 256 fh2, oPage hj hjb, aN cI hjb 256 fj2, oPage hi hib, aN cI hib 256 fi2, oTape ht htb sz, aN cI htb 48 T]) := by
  intro l
  refine Up_of (by decide) (Nat.le_of_ble_eq_true rfl) (fun x k hq => ?_)
  refine v_iconst (n := 1) k dX4_makePlace_0 rfl ?_
  refine v_istore (n := 3) k dX4_makePlace_1 rfl (by decide) rfl rfl ?_
  exact lp_X4_makePlace (a0 := (C, wt, al, dn)) k hq hH hh9 hK hks9 hZ hz hT hI hM 65 0 _ _ _ _ _ _ _ _ _ _ _ (by omega) (by omega) rfl hinv rfl hks hal
