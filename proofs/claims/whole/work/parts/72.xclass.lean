section VLS
variable {x : Kx} {cc : ByteArray} {nL : Nat} {own : String} {ret : Option FieldType} {D : va_G} {tys : List (ClassId × FieldType)} {rm : Room} {A : Nat → Prop} {wr : Bool} {cells slots : Nat} {ws : va_W} {pc n : Nat} {lv lv' : List (Nat × Value)} {st : List Value}
theorem v_lstore (k : Kf x cc nL own ret D tys rm) {i : Nat} {v : Int64} (hd : decode cc pc = .ok (.lstore i, 2)) (hn : pc + 2 = n) (hi : i + 1 < nL) (hl : (i, Value.long v) :: lv.filter (fun q => !(q.1 == i) && (!(q.1 == i + 1) && !(q.1 + 1 == i && q.2.category == 2))) = lv') (h : Vw x nL A D wr cells slots ws n lv' st) : Vw x nL A D wr cells slots ws pc lv (.long v :: st) := by
  subst hn
  exact fun H locs ls a b c d => lv_lstore k.1 k.2.1 hd d hi hl (fun ls' d' => h H locs ls' a b c d')
end VLS
/-- a CHANGE that was done keeps the invariant, whatever the power -/
theorem chg_inv {a a9 : DA} {chs : List (Nat × (Nat → Nat))} {pg lg : Nat} (h : CHG a.1 chs pg lg) (e : sChg a chs = (true, a9)) : FULL a9.1 pg lg ∧ pb a9.1 1 0 = 0 := by
  have hw := h.2.2.2.1.1
  have hb : ∀ j, a9.1 j < 256 := by
    have := sChg_b h.1 hw.2.2.2.2.2.2 hw.2.1 a h.2.1
    rw [e] at this
    exact this
  rcases sChg_states h.1 hw.2.2.2.2.2.2 e with ⟨-, -, h3, h4⟩ | ⟨h1, -⟩
  · exact ⟨h.2.2.2.ag h3 hb, h4 0 (by decide)⟩
  · cases h1
def INV (pg lg : Nat) (C : Nat → Nat) : Prop := FULL C pg lg ∧ pb C 1 0 = 0
theorem st0 {r : Bool × DA} {a9 : DA} (e : (match r with | (true, a') => ((0 : Int), a') | (false, a') => (4, a')) = (0, a9)) : r = (true, a9) := by
  obtain ⟨b, a⟩ := r
  cases b with
  | true => cases e; rfl
  | false => cases e
theorem sRes_inv {C : Nat → Nat} {wt al dn : Int} {pg lg q : Nat} {a9 : DA} (hF : INV pg lg C) (hq : q = C 0 + 1 ∨ (q + 1 = C 0 ∧ hbD C pg lg (C 0) = false)) (e : sRes (C, wt, al, dn) pg lg q = (0, a9)) : INV pg lg a9.1 := by
  unfold sRes at e
  by_cases h1 : cntK C lg 0 pg + pF (C 0) < pF q
  · have e' : ((1 : Int), ((C, wt, al, dn) : DA)) = (0, a9) := (if_pos h1).symm.trans e
    cases e'
  · rw [if_neg (show ¬ cntK (C, wt, al, dn).1 lg 0 pg + pF ((C, wt, al, dn).1 0) < pF q from h1)] at e
    by_cases h2 : lg < pF q + 1
    · rw [if_pos h2] at e
      cases e
    · rw [if_neg h2] at e
      exact chg_inv (a := (C, wt, al, dn)) (rz_chg hF.1 (show RZH C pg lg q from ⟨hq, by omega, by omega⟩)) (st0 e)
theorem st_inv {C : Nat → Nat} {wt al dn : Int} {pg lg h : Nat} {a9 : DA} (hF : INV pg lg C) (hh : h < 65536) (e : sSt (C, wt, al, dn) pg lg h = (0, a9)) : INV pg lg a9.1 := by
  unfold sSt at e
  by_cases hD : pb C (entN C (idx C h)) 0 = C 0
  · rw [if_pos (show pb (C, wt, al, dn).1 (entN (C, wt, al, dn).1 (idx (C, wt, al, dn).1 h)) 0 = (C, wt, al, dn).1 0 from hD)] at e
    exact sRes_inv hF (Or.inl rfl) e
  · rw [if_neg (show ¬ pb (C, wt, al, dn).1 (entN (C, wt, al, dn).1 (idx (C, wt, al, dn).1 h)) 0 = (C, wt, al, dn).1 0 from hD)] at e
    unfold sSpl at e
    cases e0 : frN C pg lg 0 with
    | none =>
      rw [show frN (C, wt, al, dn).1 pg lg 0 = none from e0] at e
      cases e
    | some x =>
      rw [show frN (C, wt, al, dn).1 pg lg 0 = some x from e0] at e
      by_cases hl : lg < 2 + dpO (spF C h (pb C (entN C (idx C h)) 0)) (spB C h (pb C (entN C (idx C h)) 0))
      · have e' : ((2 : Int), ((C, wt, al, dn) : DA)) = (0, a9) := (if_pos hl).symm.trans e
        cases e'
      · have e' := (if_neg hl).symm.trans e
        exact chg_inv (a := (C, wt, al, dn)) (sp_chg hF.1 hh hD e0 hl) (st0 e')
theorem mrg_inv {C : Nat → Nat} {wt al dn : Int} {pg lg h o : Nat} {a9 : DA} (hF : INV pg lg C) (hh : h < 65536) (hm : mpN C h = some o) (e : sMrg (C, wt, al, dn) lg h o = (0, a9)) : INV pg lg a9.1 := by
  obtain ⟨kp, lf, a, b, d, hX⟩ := mg_x hF.1 hh hm
  obtain ⟨x1, x2, x3, x4, x5, -, -, -, -, -, -, -, -, x14⟩ := id hX
  unfold sMrg at e
  subst x1
  subst x2
  subst x3
  subst x4
  subst x5
  by_cases hl : lg < 1 + dpO (mgF C h (pb C (entN C (idx C h)) 0)) (mgF C h (pb C (entN C (idx C h)) 0) + 2 ^ (C 0 - pb C (entN C (idx C h)) 0))
  · have e' : ((2 : Int), ((C, wt, al, dn) : DA)) = (0, a9) := (if_pos hl).symm.trans e
    cases e'
  · have e' := (if_neg hl).symm.trans e
    rcases stC_cs e' with ⟨-, h9⟩ | ⟨h9, -⟩
    · exact chg_inv (a := (C, wt, al, dn)) (x14 hl).2 h9
    · cases h9
set_option maxHeartbeats 1000000 in
set_option maxRecDepth 20000 in
theorem z_X4_format {D : va_G} {cI cB cJ cZ : ClassId} {hx hd hc hk hch hb hbb hh hhb ht htb ha hj hi hjb hib : Nat} {an ko : Int} {pg lg : Nat} {wt al dn : Int} {tp : Nat} {C K fb fh fj fi T An : Nat → Nat} {P L : Int} (hP : in32 P) (hL : in32 L) : ∀ l : Launch, l.stackTraces = false → Ux l yX4_format cX4_format 3 none ({ frames := 8, cells := 1, slots := 6, locals := 150 }) D (TY cI cB cJ cZ) [.ref hx, .int (iI P), .int (iI L)] [oHash hx hd hch hb hh ht ha an, oDisk hd hc hk ko pg lg wt al dn, aN cI hc 65280 C, aN cI hk 255 K, oChange hch hd hj hi, oPage hb hbb, aN cI hbb 256 fb, oPage hh hhb, aN cI hhb 256 fh, oPage hj hjb, aN cI hjb 256 fj, oPage hi hib, aN cI hib 256 fi, oTape ht htb ((tp : Nat) : Int), aN cI htb 48 T, aN cI ha 32 An] (fun v w1 => v = none ∧ fmOk P L ∧ w1 = [oHash hx hd hch hb hh ht ha 0, oDisk hd hc hk 1 P.toNat L.toNat 0 (-1) 0, aN cI hc 65280 (fmC C P.toNat L.toNat), aN cI hk 255 K, oChange hch hd hj hi, oPage hb hbb, aN cI hbb 256 (fun _ => 0), oPage hh hhb, aN cI hhb 256 fh, oPage hj hjb, aN cI hjb 256 fj, oPage hi hib, aN cI hib 256 fi, oTape ht htb ((tp : Nat) : Int), aN cI htb 48 T, aN cI ha 32 An]) (fun E w1 => E = xIAE ∧ ¬ fmOk P L ∧ w1 = [oHash hx hd hch hb hh ht ha an, oDisk hd hc hk ko pg lg wt al dn, aN cI hc 65280 C, aN cI hk 255 K, oChange hch hd hj hi, oPage hb hbb, aN cI hbb 256 fb, oPage hh hhb, aN cI hhb 256 fh, oPage hj hjb, aN cI hjb 256 fj, oPage hi hib, aN cI hib 256 fi, oTape ht htb ((tp : Nat) : Int), aN cI htb 48 T, aN cI ha 32 An]) := by
  intro l hst9
  refine Ux_of hst9 (by decide) (Nat.le_of_ble_eq_true rfl) (fun x k hq ke => ?_)
  obtain ⟨hi1, hi2⟩ := id hP
  obtain ⟨hi3, hi4⟩ := id hL
  refine v_iload_n (n := 1) k dX4_format_0 rfl rfl ?_
  refine v_bipush (n := 3) k dX4_format_1 (by decide) rfl ?_
  refine v_icmp_lt (n := 6) (t := 13) k (⟨by omega, by omega⟩) (⟨by omega, by omega⟩) dX4_format_3 (by decide) rfl (fun c_3 => ?_) (fun c_3 => ?_)
  · refine v_throwX (is := 56) k hq ke th_IAE (List.mem_of_getElem? (i := 0) rfl) ⟨by decide, by decide, by decide, by decide⟩ ?_ rfl dX4_format_13 dX4_format_16 dX4_format_17 dX4_format_19 dX4_format_22
    exact ⟨rfl, by unfold fmOk; omega, rfl⟩
  · refine v_iload_n (n := 7) k dX4_format_6 rfl rfl ?_
    refine v_sipush (n := 10) k dX4_format_7 (by decide) rfl ?_
    refine v_icmp_le (n := 13) (t := 23) k (⟨by omega, by omega⟩) (⟨by omega, by omega⟩) dX4_format_10 (by decide) rfl (fun c_10 => ?_) (fun c_10 => ?_)
    · refine v_iload_n (n := 24) k dX4_format_23 rfl rfl ?_
      refine v_iconst (n := 25) k dX4_format_24 rfl ?_
      refine v_icmp_lt (n := 28) (t := 34) k (⟨by omega, by omega⟩) (⟨by omega, by omega⟩) dX4_format_25 (by decide) rfl (fun c_25 => ?_) (fun c_25 => ?_)
      · refine v_throwX (is := 61) k hq ke th_IAE (List.mem_of_getElem? (i := 1) rfl) ⟨by decide, by decide, by decide, by decide⟩ ?_ rfl dX4_format_34 dX4_format_37 dX4_format_38 dX4_format_40 dX4_format_43
        exact ⟨rfl, by unfold fmOk; omega, rfl⟩
      · refine v_iload_n (n := 29) k dX4_format_28 rfl rfl ?_
        refine v_bipush (n := 31) k dX4_format_29 (by decide) rfl ?_
        refine v_icmp_le (n := 34) (t := 44) k (⟨by omega, by omega⟩) (⟨by omega, by omega⟩) dX4_format_31 (by decide) rfl (fun c_31 => ?_) (fun c_31 => ?_)
        · refine v_iload_n (n := 45) k dX4_format_44 rfl rfl ?_
          refine v_iload_n (n := 46) k dX4_format_45 rfl rfl ?_
          refine v_iconst (n := 47) k dX4_format_46 rfl ?_
          refine v_iadd (n := 48) k dX4_format_47 rfl ?_
          refine v_icmp_ge (n := 51) (t := 61) k (⟨by omega, by omega⟩) (⟨by omega, by omega⟩) dX4_format_48 (by decide) rfl (fun c_48 => ?_) (fun c_48 => ?_)
          · have hok : fmOk P L := by unfold fmOk; omega
            obtain ⟨n, rfl⟩ : ∃ n : Nat, P = (n : Int) := ⟨P.toNat, by omega⟩
            obtain ⟨g, rfl⟩ : ∃ g : Nat, L = (g : Int) := ⟨L.toNat, by omega⟩
            refine v_aload_n (n := 62) k dX4_format_61 rfl rfl ?_
            refine v_get (n := 65) k ciX4 0 0 (by decide) fl_X4_10 rfl rfl dX4_format_62 rfl ?_
            refine v_iload_n (n := 66) k dX4_format_65 rfl rfl ?_
            refine v_iload_n (n := 67) k dX4_format_66 rfl rfl ?_
            refine v_aload_n (n := 68) k dX4_format_67 rfl rfl ?_
            refine v_get (n := 71) k ciX4 0 2 (by decide) fl_X4_28 rfl rfl dX4_format_68 rfl ?_
            refine v_upV (n := 74) k [1, 2, 5, 6] 1 (z_X1_wipe (n := n) (g := g) ⟨by omega, by omega⟩ ⟨by omega, by omega⟩ (by omega)) miX1_wipe ml_X4_50 (by decide) (by decide) rfl (by decide) rfl rfl rfl rfl (Nat.le_of_ble_eq_true rfl) ⟨Nat.zero_le _, Nat.zero_le _⟩ dX4_format_71 rfl ?_
            rintro _ _ ⟨rfl, rfl⟩
            dsimp only [wput, List.set, Option.toList, List.nil_append, List.cons_append]
            refine v_aload_n (n := 75) k dX4_format_74 rfl rfl ?_
            refine v_iconst (n := 76) k dX4_format_75 rfl ?_
            refine v_put (n := 79) k ciX4 0 6 (by decide) fl_X4_46 rfl rfl (rfl) (rfl) (Nat.le_of_ble_eq_true rfl) dX4_format_76 rfl ?_
            refine v_vretX k hq ?_ rfl dX4_format_79
            exact ⟨rfl, hok, rfl⟩
          · refine v_throwX (is := 63) k hq ke th_IAE (List.mem_of_getElem? (i := 2) rfl) ⟨by decide, by decide, by decide, by decide⟩ ?_ rfl dX4_format_51 dX4_format_54 dX4_format_55 dX4_format_57 dX4_format_60
            exact ⟨rfl, by unfold fmOk; omega, rfl⟩
        · refine v_throwX (is := 61) k hq ke th_IAE (List.mem_of_getElem? (i := 1) rfl) ⟨by decide, by decide, by decide, by decide⟩ ?_ rfl dX4_format_34 dX4_format_37 dX4_format_38 dX4_format_40 dX4_format_43
          exact ⟨rfl, by unfold fmOk; omega, rfl⟩
    · refine v_throwX (is := 56) k hq ke th_IAE (List.mem_of_getElem? (i := 0) rfl) ⟨by decide, by decide, by decide, by decide⟩ ?_ rfl dX4_format_13 dX4_format_16 dX4_format_17 dX4_format_19 dX4_format_22
      exact ⟨rfl, by unfold fmOk; omega, rfl⟩
set_option maxHeartbeats 1000000 in
set_option maxRecDepth 20000 in
theorem z_X4_power {D : va_G} {cI cB cJ cZ : ClassId} {hx hd hc hk hch hb hbb hh hhb ht htb ha hj hi hjb hib : Nat} {an ko : Int} {pg lg : Nat} {wt al dn : Int} {tp : Nat} {C K fb fh fj fi T An : Nat → Nat} {N : Int} (hN : in32 N) (hdn : dn = 0 ∨ dn = 1) : ∀ l : Launch, l.stackTraces = false → Ux l yX4_power cX4_power 2 none ({ frames := 8, cells := 1, slots := 6, locals := 150 }) D (TY cI cB cJ cZ) [.ref hx, .int (iI N)] [oHash hx hd hch hb hh ht ha an, oDisk hd hc hk ko pg lg wt al dn, aN cI hc 65280 C, aN cI hk 255 K, oChange hch hd hj hi, oPage hb hbb, aN cI hbb 256 fb, oPage hh hhb, aN cI hhb 256 fh, oPage hj hjb, aN cI hjb 256 fj, oPage hi hib, aN cI hib 256 fi, oTape ht htb ((tp : Nat) : Int), aN cI htb 48 T, aN cI ha 32 An] (fun v w1 => v = none ∧ (dn = 0 ∧ ¬ N < -1) ∧ w1 = [oHash hx hd hch hb hh ht ha an, oDisk hd hc hk ko pg lg wt N 0, aN cI hc 65280 C, aN cI hk 255 K, oChange hch hd hj hi, oPage hb hbb, aN cI hbb 256 fb, oPage hh hhb, aN cI hhb 256 fh, oPage hj hjb, aN cI hjb 256 fj, oPage hi hib, aN cI hib 256 fi, oTape ht htb ((tp : Nat) : Int), aN cI htb 48 T, aN cI ha 32 An]) (fun E w1 => ((E = xISE ∧ dn = 1) ∨ (E = xIAE ∧ dn = 0 ∧ N < -1)) ∧ w1 = [oHash hx hd hch hb hh ht ha an, oDisk hd hc hk ko pg lg wt al dn, aN cI hc 65280 C, aN cI hk 255 K, oChange hch hd hj hi, oPage hb hbb, aN cI hbb 256 fb, oPage hh hhb, aN cI hhb 256 fh, oPage hj hjb, aN cI hjb 256 fj, oPage hi hib, aN cI hib 256 fi, oTape ht htb ((tp : Nat) : Int), aN cI htb 48 T, aN cI ha 32 An]) := by
  intro l hst9
  refine Ux_of hst9 (by decide) (Nat.le_of_ble_eq_true rfl) (fun x k hq ke => ?_)
  obtain ⟨hi1, hi2⟩ := id hN
  refine v_aload_n (n := 1) k dX4_power_0 rfl rfl ?_
  refine v_get (n := 4) k ciX4 0 0 (by decide) fl_X4_10 rfl rfl dX4_power_1 rfl ?_
  refine v_rdVi (n := 7) k [1] 1 (z_X1_isDown hdn) miX1_isDown ml_X4_83 (by decide) (by decide) rfl (by decide) rfl rfl rfl rfl (Nat.le_of_ble_eq_true rfl) ⟨Nat.zero_le _, Nat.zero_le _⟩ dX4_power_4 rfl ?_
  refine v_if_eq (n := 10) (t := 20) k (⟨by omega, by omega⟩) dX4_power_7 (by decide) rfl (fun c_7 => ?_) (fun c_7 => ?_)
  · refine v_iload_n (n := 21) k dX4_power_20 rfl rfl ?_
    refine v_iconst (n := 22) k dX4_power_21 rfl ?_
    refine v_icmp_ge (n := 25) (t := 35) k (⟨by omega, by omega⟩) (⟨by omega, by omega⟩) dX4_power_22 (by decide) rfl (fun c_22 => ?_) (fun c_22 => ?_)
    · refine v_aload_n (n := 36) k dX4_power_35 rfl rfl ?_
      refine v_get (n := 39) k ciX4 0 0 (by decide) fl_X4_10 rfl rfl dX4_power_36 rfl ?_
      refine v_iload_n (n := 40) k dX4_power_39 rfl rfl ?_
      refine v_upV (n := 43) k [1] 1 (z_X1_allow) miX1_allow ml_X4_136 (by decide) (by decide) rfl (by decide) rfl rfl rfl rfl (Nat.le_of_ble_eq_true rfl) ⟨Nat.zero_le _, Nat.zero_le _⟩ dX4_power_40 rfl ?_
      rintro _ _ ⟨rfl, rfl⟩
      dsimp only [wput, List.set, Option.toList, List.nil_append, List.cons_append]
      refine v_vretX k hq ?_ rfl dX4_power_43
      exact ⟨rfl, ⟨by omega, by omega⟩, rfl⟩
    · refine v_throwX (is := 134) k hq ke th_IAE (List.mem_of_getElem? (i := 9) rfl) ⟨by decide, by decide, by decide, by decide⟩ ?_ rfl dX4_power_25 dX4_power_28 dX4_power_29 dX4_power_31 dX4_power_34
      exact ⟨Or.inr ⟨rfl, by omega, by omega⟩, rfl⟩
  · refine v_throwX (is := 89) k hq ke th_ISE (List.mem_of_getElem? (i := 5) rfl) ⟨by decide, by decide, by decide, by decide⟩ ?_ rfl dX4_power_10 dX4_power_13 dX4_power_14 dX4_power_16 dX4_power_19
    exact ⟨Or.inl ⟨rfl, by omega⟩, rfl⟩
theorem DNS.jv {C : Nat → Nat} {pg lg : Nat} (h : DNS C pg lg) : JV (pb C 1) pg := by
  have hn := h.n0
  rcases h with ⟨h0, h⟩ | ⟨C0, chs, j, h1, h2, h3⟩
  · exact ⟨by omega, fun i hi => absurd hi (by omega)⟩
  · have hl : pb C 1 0 = chs.length := by
      have : pb C 1 0 = (chs.map Prod.fst).length := h3.1 0 (by decide)
      rw [List.length_map] at this
      exact this
    refine ⟨by omega, fun i hi => ?_⟩
    have hi' : i < chs.length := by omega
    have e1 : pb C 1 (1 + i) = chs[i].1 := by
      rw [h3.1 _ (by omega)]
      show (if 1 + i = 0 then _ else (chs.map Prod.fst).getD (1 + i - 1) 0) = _
      rw [if_neg (by omega), show 1 + i - 1 = i by omega, List.getD_eq_getElem?_getD, List.getElem?_map, List.getElem?_eq_getElem hi']
      rfl
    have h9 := h1.1.2.2 _ (List.getElem_mem hi')
    rw [e1]
    exact ⟨h9.2.1, by omega⟩
set_option maxHeartbeats 1000000 in
set_option maxRecDepth 20000 in
theorem z_X4_recover {D : va_G} {cI cB cJ cZ : ClassId} {hx hd hc hk hch hb hbb hh hhb ht htb ha hj hi hjb hib : Nat} {an ko : Int} {pg lg : Nat} {wt al dn : Int} {tp : Nat} {C K fb fh fj fi T An : Nat → Nat} {N : Int} (hN : in32 N) (hD : DNS C pg lg) (hks : KS ko K C pg lg) : ∀ l : Launch, l.stackTraces = false → Ux l yX4_recover cX4_recover 2 (some .int) ({ frames := 8, cells := 1, slots := 6, locals := 150 }) D (TY cI cB cJ cZ) [.ref hx, .int (iI N)] [oHash hx hd hch hb hh ht ha an, oDisk hd hc hk ko pg lg wt al dn, aN cI hc 65280 C, aN cI hk 255 K, oChange hch hd hj hi, oPage hb hbb, aN cI hbb 256 fb, oPage hh hhb, aN cI hhb 256 fh, oPage hj hjb, aN cI hjb 256 fj, oPage hi hib, aN cI hib 256 fi, oTape ht htb ((tp : Nat) : Int), aN cI htb 48 T, aN cI ha 32 An] (fun v w1 => ¬ N < -1 ∧ ∃ (a9 : DA) (s9 ko9 : Int) (fj9 fi9 : Nat → Nat), rcF (C, wt, N, 0) = (s9, a9) ∧ v = some (.int (iI s9)) ∧ KS ko9 K a9.1 pg lg ∧ in32 a9.2.2.1 ∧ w1 = [oHash hx hd hch hb hh ht ha an, oDisk hd hc hk ko9 pg lg a9.2.1 a9.2.2.1 a9.2.2.2, aN cI hc 65280 a9.1, aN cI hk 255 K, oChange hch hd hj hi, oPage hb hbb, aN cI hbb 256 fb, oPage hh hhb, aN cI hhb 256 fh, oPage hj hjb, aN cI hjb 256 fj9, oPage hi hib, aN cI hib 256 fi9, oTape ht htb ((tp : Nat) : Int), aN cI htb 48 T, aN cI ha 32 An]) (fun E w1 => E = xIAE ∧ N < -1 ∧ w1 = [oHash hx hd hch hb hh ht ha an, oDisk hd hc hk ko pg lg wt al dn, aN cI hc 65280 C, aN cI hk 255 K, oChange hch hd hj hi, oPage hb hbb, aN cI hbb 256 fb, oPage hh hhb, aN cI hhb 256 fh, oPage hj hjb, aN cI hjb 256 fj, oPage hi hib, aN cI hib 256 fi, oTape ht htb ((tp : Nat) : Int), aN cI htb 48 T, aN cI ha 32 An]) := by
  intro l hst9
  refine Ux_of hst9 (by decide) (Nat.le_of_ble_eq_true rfl) (fun x k hq ke => ?_)
  obtain ⟨hi1, hi2⟩ := id hN
  obtain ⟨n1, n2, n3, n4⟩ := hD.n0
  refine v_iload_n (n := 1) k dX4_recover_0 rfl rfl ?_
  refine v_iconst (n := 2) k dX4_recover_1 rfl ?_
  refine v_icmp_ge (n := 5) (t := 15) k (⟨by omega, by omega⟩) (⟨by omega, by omega⟩) dX4_recover_2 (by decide) rfl (fun c_2 => ?_) (fun c_2 => ?_)
  · refine v_aload_n (n := 16) k dX4_recover_15 rfl rfl ?_
    refine v_get (n := 19) k ciX4 0 0 (by decide) fl_X4_10 rfl rfl dX4_recover_16 rfl ?_
    refine v_iload_n (n := 20) k dX4_recover_19 rfl rfl ?_
    refine v_upV (n := 23) k [1] 1 (z_X1_allow) miX1_allow ml_X4_136 (by decide) (by decide) rfl (by decide) rfl rfl rfl rfl (Nat.le_of_ble_eq_true rfl) ⟨Nat.zero_le _, Nat.zero_le _⟩ dX4_recover_20 rfl ?_
    rintro _ _ ⟨rfl, rfl⟩
    dsimp only [wput, List.set, Option.toList, List.nil_append, List.cons_append]
    refine v_aload_n (n := 24) k dX4_recover_23 rfl rfl ?_
    refine v_get (n := 27) k ciX4 0 0 (by decide) fl_X4_10 rfl rfl dX4_recover_24 rfl ?_
    refine v_iconst (n := 28) k dX4_recover_27 rfl ?_
    refine v_iconst (n := 29) k dX4_recover_28 rfl ?_
    refine v_rdVi (n := 32) k [1, 2] 1 (z_X1_at (p := 1) (i := 0) rfl rfl (by omega) (by omega) n4) miX1_at ml_X4_130 (by decide) (by decide) rfl (by decide) rfl rfl rfl rfl (Nat.le_of_ble_eq_true rfl) ⟨Nat.zero_le _, Nat.zero_le _⟩ dX4_recover_29 rfl ?_
    refine v_if_ne (n := 35) (t := 37) k (⟨by omega, by omega⟩) dX4_recover_32 (by decide) rfl (fun c_32 => ?_) (fun c_32 => ?_)
    · have hz : ¬ pb C 1 0 = 0 := by omega
      refine v_aload_n (n := 38) k dX4_recover_37 rfl rfl ?_
      refine v_get (n := 41) k ciX4 0 1 (by decide) fl_X4_21 rfl rfl dX4_recover_38 rfl ?_
      refine v_upV (n := 44) k [4, 1, 2, 3, 9, 10, 11, 12] 4 (z_X0_settle (J := pb C 1) hD.jv (fun _ _ => rfl) n4 hks hN) miX0_settle ml_X4_139 (by decide) (by decide) rfl (by decide) rfl rfl rfl rfl (Nat.le_of_ble_eq_true rfl) ⟨Nat.zero_le _, Nat.zero_le _⟩ dX4_recover_41 rfl ?_
      rintro _ _ ⟨b9, C9, wt9, al9, dn9, ko9, fj9, fi9, hsc, hks9, hal9, rfl, rfl⟩
      dsimp only [wput, List.set, Option.toList, List.nil_append, List.cons_append]
      refine v_if_eq (n := 47) (t := 51) k (bI_in _) dX4_recover_44 (by decide) rfl (fun c_44 => ?_) (fun c_44 => ?_)
      · have hb := bI_e0 c_44
        subst hb
        refine v_iconst (n := 52) k dX4_recover_51 rfl ?_
        refine v_iretX k hq ?_ rfl dX4_recover_52
        exact ⟨by omega, (C9, wt9, al9, dn9), 4, ko9, fj9, fi9, (if_neg hz).trans (by rw [hsc]; rfl), rfl, hks9, hal9, rfl⟩
      · have hb := bI_n0 c_44
        subst hb
        refine v_iconst (n := 48) k dX4_recover_47 rfl ?_
        refine v_goto (t := 52) k dX4_recover_48 (by decide) ?_
        refine v_iretX k hq ?_ rfl dX4_recover_52
        exact ⟨by omega, (C9, wt9, al9, dn9), 0, ko9, fj9, fi9, (if_neg hz).trans (by rw [hsc]; rfl), rfl, hks9, hal9, rfl⟩
    · have hz : pb C 1 0 = 0 := by omega
      refine v_iconst (n := 36) k dX4_recover_35 rfl ?_
      refine v_iretX k hq ?_ rfl dX4_recover_36
      exact ⟨by omega, (C, wt, N, 0), 0, ko, fj, fi, if_pos hz, rfl, hks, hN, rfl⟩
  · refine v_throwX (is := 134) k hq ke th_IAE (List.mem_of_getElem? (i := 9) rfl) ⟨by decide, by decide, by decide, by decide⟩ ?_ rfl dX4_recover_5 dX4_recover_8 dX4_recover_9 dX4_recover_11 dX4_recover_14
    exact ⟨rfl, by omega, rfl⟩
theorem by8_ushr (v : Int64) {j : Nat} (hj : j < 8) : iI (((v.toUInt64 >>> ((iI ((8 * j : Nat) : Int)).toInt64.toUInt64 &&& Int64.toUInt64 63)).toInt64).toInt32.toInt) &&& iI 255 = iI ((by8 v j : Nat) : Int) := by
  rw [iI_i]
  apply Int32.toBitVec_inj.1
  rw [Int32.toBitVec_and, Int64.toBitVec_toInt32]
  have e : (v.toUInt64 >>> ((iI ((8 * j : Nat) : Int)).toInt64.toUInt64 &&& Int64.toUInt64 63)).toInt64.toBitVec = v.toBitVec >>> (8 * j) := by
    show (v.toUInt64 >>> ((iI ((8 * j : Nat) : Int)).toInt64.toUInt64 &&& Int64.toUInt64 63)).toBitVec = _
    rw [UInt64.toBitVec_shiftRight]
    show v.toBitVec >>> ((((nI (8 * j)).toInt64.toUInt64 &&& Int64.toUInt64 63)).toBitVec % 64) = _
    rw [BitVec.ushiftRight_eq', lx_u (8 * j) (by omega)]
  rw [e]
  show _ &&& BitVec.ofNat 32 255 = BitVec.ofNat 32 (by8 v j)
  apply BitVec.eq_of_getLsbD_eq
  intro i hi
  rw [BitVec.getLsbD_and, BitVec.getLsbD_signExtend, BitVec.getLsbD_ofNat, BitVec.getLsbD_ofNat, tb8, BitVec.getLsbD_ushiftRight]
  have e255 : Nat.testBit 255 i = decide (i < 8) := by
    have := Nat.testBit_two_pow_sub_one 8 i
    exact this
  rw [e255]
  by_cases h8 : i < 8
  · simp [h8, hi, show i < 64 by omega, show 8 * j + i < 64 by omega]
  · simp [h8]
theorem u8 (v : Int64) {j : Nat} : iI (((v.toUInt64 >>> ((iI ((8 : Int) * ((j % 8 : Nat) : Int))).toInt64.toUInt64 &&& Int64.toUInt64 63)).toInt64).toInt32.toInt) &&& iI 255 = iI ((by8 v (j % 8) : Nat) : Int) := by
  have e8 : (8 : Int) * ((j % 8 : Nat) : Int) = ((8 * (j % 8) : Nat) : Int) := by omega
  rw [e8]
  exact by8_ushr v (Nat.mod_lt _ (by decide))
set_option maxHeartbeats 1000000 in
set_option maxRecDepth 20000 in
theorem lp_X4_feed {D : va_G} {cI cB cJ cZ : ClassId} {x : Kx} {hx hd hc hk hch hb hbb hh hhb ht htb ha hj hi hjb hib : Nat} {an ko : Int} {pg lg : Nat} {wt al dn : Int} {tp : Nat} {C K fb fh fj fi T An : Nat → Nat} {Aw Bw : Int64} {n : Nat} (k : Kf x cX4_feed 9 yX4_feed.cls (some .int) D (TY cI cB cJ cZ) ({ frames := 8, cells := 1, slots := 6, locals := 150 })) {A : Nat → Prop} (hn : tp + n ≤ 48) (hn16 : n ≤ 16) (hk9 : Vw x 9 A D true 0 0 [oHash hx hd hch hb hh ht ha an, oDisk hd hc hk ko pg lg wt al dn, aN cI hc 65280 C, aN cI hk 255 K, oChange hch hd hj hi, oPage hb hbb, aN cI hbb 256 fb, oPage hh hhb, aN cI hhb 256 fh, oPage hj hjb, aN cI hjb 256 fj, oPage hi hib, aN cI hib 256 fi, oTape ht htb ((tp + n : Nat) : Int), aN cI htb 48 (tpF T tp Aw Bw n), aN cI ha 32 An] 98 [(0, .ref hx), (1, .int (iI ((n : Nat) : Int))), (2, .long Aw), (4, .long Bw), (6, .int (iI ((n : Nat) : Int)))] []) : ∀ (m : Nat) (i : Nat) (I : Int), n < i + m → i ≤ n → I = (i : Int) → Vw x 9 A D true 0 0 [oHash hx hd hch hb hh ht ha an, oDisk hd hc hk ko pg lg wt al dn, aN cI hc 65280 C, aN cI hk 255 K, oChange hch hd hj hi, oPage hb hbb, aN cI hbb 256 fb, oPage hh hhb, aN cI hhb 256 fh, oPage hj hjb, aN cI hjb 256 fj, oPage hi hib, aN cI hib 256 fi, oTape ht htb ((tp + i : Nat) : Int), aN cI htb 48 (tpF T tp Aw Bw i), aN cI ha 32 An] 48 [(0, .ref hx), (1, .int (iI ((n : Nat) : Int))), (2, .long Aw), (4, .long Bw), (6, .int (iI I))] [] := by
  intro m
  induction m with
  | zero => intro i I hm9 hin9 e1; omega
  | succ m ih =>
    intro i I hm9 hin9 e1
    refine v_iload (n := 50) k dX4_feed_48 rfl rfl ?_
    refine v_iload_n (n := 51) k dX4_feed_50 rfl rfl ?_
    refine v_icmp_ge (n := 54) (t := 98) k (⟨by omega, by omega⟩) (⟨by omega, by omega⟩) dX4_feed_51 (by decide) rfl (fun c_51 => ?_) (fun c_51 => ?_)
    · have e8 : i = n := by omega
      rw [show I = ((n : Nat) : Int) by omega, e8]
      exact hk9
    · refine v_iload (n := 56) k dX4_feed_54 rfl rfl ?_
      refine v_bipush (n := 58) k dX4_feed_56 (by decide) rfl ?_
      refine v_icmp_ge (n := 61) (t := 65) k (⟨by omega, by omega⟩) (⟨by omega, by omega⟩) dX4_feed_58 (by decide) rfl (fun c_58 => ?_) (fun c_58 => ?_)
      · refine v_lload (n := 67) k dX4_feed_65 rfl rfl ?_
        refine v_lstore (n := 69) k dX4_feed_67 rfl (by decide) rfl ?_
        refine v_aload_n (n := 70) k dX4_feed_69 rfl rfl ?_
        refine v_get (n := 73) k ciX4 0 4 (by decide) fl_X4_38 rfl rfl dX4_feed_70 rfl ?_
        refine v_lload (n := 75) k dX4_feed_73 rfl rfl ?_
        refine v_bipush (n := 77) k dX4_feed_75 (by decide) rfl ?_
        refine v_iload (n := 79) k dX4_feed_77 rfl rfl ?_
        refine v_bipush (n := 81) k dX4_feed_79 (by decide) rfl ?_
        refine v_iand (n := 82) k (((i % 8 : Nat) : Int)) (ax_m3 e1) dX4_feed_81 rfl ?_
        refine v_imul (n := 83) k dX4_feed_82 rfl ?_
        refine v_lushr (n := 84) k dX4_feed_83 rfl ?_
        refine v_l2i (n := 85) k dX4_feed_84 rfl ?_
        refine v_sipush (n := 88) k dX4_feed_85 (by decide) rfl ?_
        refine v_iand (n := 89) k (((by8 Bw (i % 8) : Nat) : Int)) (u8 Bw) dX4_feed_88 rfl ?_
        refine v_upV (n := 92) k [13, 14] 13 (z_X3_append (v := by8 Bw (i % 8)) (n := tp + i) rfl rfl (by omega)) miX3_append ml_X4_76 (by decide) (by decide) rfl (by decide) rfl rfl rfl rfl (Nat.le_of_ble_eq_true rfl) ⟨Nat.zero_le _, Nat.zero_le _⟩ dX4_feed_89 rfl ?_
        rintro _ _ ⟨rfl, rfl⟩
        dsimp only [wput, List.set, Option.toList, List.nil_append, List.cons_append]
        rw [tpF_s (b := by8 Bw (i % 8)) (by rw [if_neg (by omega)])]
        refine v_iinc (n := 95) k dX4_feed_92 rfl (by decide) rfl rfl rfl ?_
        refine v_goto (t := 48) k dX4_feed_95 (by decide) ?_
        refine v_lvf [(0, .ref hx), (1, .int (iI ((n : Nat) : Int))), (2, .long Aw), (4, .long Bw), (6, .int (iI (I + 1)))] ⟨rfl, rfl, rfl, rfl, rfl, trivial⟩ ?_
        refine v_ws (ws' := [oHash hx hd hch hb hh ht ha an, oDisk hd hc hk ko pg lg wt al dn, aN cI hc 65280 C, aN cI hk 255 K, oChange hch hd hj hi, oPage hb hbb, aN cI hbb 256 fb, oPage hh hhb, aN cI hhb 256 fh, oPage hj hjb, aN cI hjb 256 fj, oPage hi hib, aN cI hib 256 fi, oTape ht htb ((tp + (i + 1) : Nat) : Int), aN cI htb 48 (tpF T tp Aw Bw (i + 1)), aN cI ha 32 An]) (by rfl) ?_
        exact ih (i + 1) _ (by omega) (by omega) (by omega)
      · refine v_lload_n (n := 62) k dX4_feed_61 rfl rfl ?_
        refine v_goto (t := 67) k dX4_feed_62 (by decide) ?_
        refine v_lstore (n := 69) k dX4_feed_67 rfl (by decide) rfl ?_
        refine v_aload_n (n := 70) k dX4_feed_69 rfl rfl ?_
        refine v_get (n := 73) k ciX4 0 4 (by decide) fl_X4_38 rfl rfl dX4_feed_70 rfl ?_
        refine v_lload (n := 75) k dX4_feed_73 rfl rfl ?_
        refine v_bipush (n := 77) k dX4_feed_75 (by decide) rfl ?_
        refine v_iload (n := 79) k dX4_feed_77 rfl rfl ?_
        refine v_bipush (n := 81) k dX4_feed_79 (by decide) rfl ?_
        refine v_iand (n := 82) k (((i % 8 : Nat) : Int)) (ax_m3 e1) dX4_feed_81 rfl ?_
        refine v_imul (n := 83) k dX4_feed_82 rfl ?_
        refine v_lushr (n := 84) k dX4_feed_83 rfl ?_
        refine v_l2i (n := 85) k dX4_feed_84 rfl ?_
        refine v_sipush (n := 88) k dX4_feed_85 (by decide) rfl ?_
        refine v_iand (n := 89) k (((by8 Aw (i % 8) : Nat) : Int)) (u8 Aw) dX4_feed_88 rfl ?_
        refine v_upV (n := 92) k [13, 14] 13 (z_X3_append (v := by8 Aw (i % 8)) (n := tp + i) rfl rfl (by omega)) miX3_append ml_X4_76 (by decide) (by decide) rfl (by decide) rfl rfl rfl rfl (Nat.le_of_ble_eq_true rfl) ⟨Nat.zero_le _, Nat.zero_le _⟩ dX4_feed_89 rfl ?_
        rintro _ _ ⟨rfl, rfl⟩
        dsimp only [wput, List.set, Option.toList, List.nil_append, List.cons_append]
        rw [tpF_s (b := by8 Aw (i % 8)) (by rw [if_pos (by omega)])]
        refine v_iinc (n := 95) k dX4_feed_92 rfl (by decide) rfl rfl rfl ?_
        refine v_goto (t := 48) k dX4_feed_95 (by decide) ?_
        refine v_lvf [(0, .ref hx), (1, .int (iI ((n : Nat) : Int))), (2, .long Aw), (4, .long Bw), (6, .int (iI (I + 1)))] ⟨rfl, rfl, rfl, rfl, rfl, trivial⟩ ?_
        refine v_ws (ws' := [oHash hx hd hch hb hh ht ha an, oDisk hd hc hk ko pg lg wt al dn, aN cI hc 65280 C, aN cI hk 255 K, oChange hch hd hj hi, oPage hb hbb, aN cI hbb 256 fb, oPage hh hhb, aN cI hhb 256 fh, oPage hj hjb, aN cI hjb 256 fj, oPage hi hib, aN cI hib 256 fi, oTape ht htb ((tp + (i + 1) : Nat) : Int), aN cI htb 48 (tpF T tp Aw Bw (i + 1)), aN cI ha 32 An]) (by rfl) ?_
        exact ih (i + 1) _ (by omega) (by omega) (by omega)
set_option maxHeartbeats 1000000 in
set_option maxRecDepth 20000 in
theorem z_X4_feed {D : va_G} {cI cB cJ cZ : ClassId} {hx hd hc hk hch hb hbb hh hhb ht htb ha hj hi hjb hib : Nat} {an ko : Int} {pg lg : Nat} {wt al dn : Int} {tp : Nat} {C K fb fh fj fi T An : Nat → Nat} {N : Int} {Aw Bw : Int64} (hN : in32 N) (htp : tp ≤ 48) : ∀ l : Launch, l.stackTraces = false → Ux l yX4_feed cX4_feed 9 (some .int) ({ frames := 8, cells := 1, slots := 6, locals := 150 }) D (TY cI cB cJ cZ) [.ref hx, .int (iI N), .long Aw, .long Bw] [oHash hx hd hch hb hh ht ha an, oDisk hd hc hk ko pg lg wt al dn, aN cI hc 65280 C, aN cI hk 255 K, oChange hch hd hj hi, oPage hb hbb, aN cI hbb 256 fb, oPage hh hhb, aN cI hhb 256 fh, oPage hj hjb, aN cI hjb 256 fj, oPage hi hib, aN cI hib 256 fi, oTape ht htb ((tp : Nat) : Int), aN cI htb 48 T, aN cI ha 32 An] (fun v w1 => fdT N tp = 0 ∧ v = some (.int (iI ((tp + N.toNat : Nat) : Int))) ∧ w1 = [oHash hx hd hch hb hh ht ha an, oDisk hd hc hk ko pg lg wt al dn, aN cI hc 65280 C, aN cI hk 255 K, oChange hch hd hj hi, oPage hb hbb, aN cI hbb 256 fb, oPage hh hhb, aN cI hhb 256 fh, oPage hj hjb, aN cI hjb 256 fj, oPage hi hib, aN cI hib 256 fi, oTape ht htb ((tp + N.toNat : Nat) : Int), aN cI htb 48 (tpF T tp Aw Bw N.toNat), aN cI ha 32 An]) (fun E w1 => ((E = xIAE ∧ fdT N tp = 1) ∨ (E = xUOE ∧ fdT N tp = 2)) ∧ w1 = [oHash hx hd hch hb hh ht ha an, oDisk hd hc hk ko pg lg wt al dn, aN cI hc 65280 C, aN cI hk 255 K, oChange hch hd hj hi, oPage hb hbb, aN cI hbb 256 fb, oPage hh hhb, aN cI hhb 256 fh, oPage hj hjb, aN cI hjb 256 fj, oPage hi hib, aN cI hib 256 fi, oTape ht htb ((tp : Nat) : Int), aN cI htb 48 T, aN cI ha 32 An]) := by
  intro l hst9
  refine Ux_of hst9 (by decide) (Nat.le_of_ble_eq_true rfl) (fun x k hq ke => ?_)
  obtain ⟨hi1, hi2⟩ := id hN
  refine v_iload_n (n := 1) k dX4_feed_0 rfl rfl ?_
  refine v_iconst (n := 2) k dX4_feed_1 rfl ?_
  refine v_icmp_lt (n := 5) (t := 11) k (⟨by omega, by omega⟩) (⟨by omega, by omega⟩) dX4_feed_2 (by decide) rfl (fun c_2 => ?_) (fun c_2 => ?_)
  · refine v_throwX (is := 65) k hq ke th_IAE (List.mem_of_getElem? (i := 3) rfl) ⟨by decide, by decide, by decide, by decide⟩ ?_ rfl dX4_feed_11 dX4_feed_14 dX4_feed_15 dX4_feed_17 dX4_feed_20
    exact ⟨Or.inl ⟨rfl, if_pos (by omega)⟩, rfl⟩
  · refine v_iload_n (n := 6) k dX4_feed_5 rfl rfl ?_
    refine v_bipush (n := 8) k dX4_feed_6 (by decide) rfl ?_
    refine v_icmp_le (n := 11) (t := 21) k (⟨by omega, by omega⟩) (⟨by omega, by omega⟩) dX4_feed_8 (by decide) rfl (fun c_8 => ?_) (fun c_8 => ?_)
    · refine v_aload_n (n := 22) k dX4_feed_21 rfl rfl ?_
      refine v_get (n := 25) k ciX4 0 4 (by decide) fl_X4_38 rfl rfl dX4_feed_22 rfl ?_
      refine v_rdVi (n := 28) k [13] 13 (z_X3_size) miX3_size ml_X4_67 (by decide) (by decide) rfl (by decide) rfl rfl rfl rfl (Nat.le_of_ble_eq_true rfl) ⟨Nat.zero_le _, Nat.zero_le _⟩ dX4_feed_25 rfl ?_
      refine v_iload_n (n := 29) k dX4_feed_28 rfl rfl ?_
      refine v_iadd (n := 30) k dX4_feed_29 rfl ?_
      refine v_bipush (n := 32) k dX4_feed_30 (by decide) rfl ?_
      refine v_icmp_le (n := 35) (t := 45) k (⟨by omega, by omega⟩) (⟨by omega, by omega⟩) dX4_feed_32 (by decide) rfl (fun c_32 => ?_) (fun c_32 => ?_)
      · have ht9 : fdT N tp = 0 := (if_neg (by omega)).trans (if_neg (by omega))
        obtain ⟨n, hn⟩ : ∃ n : Nat, N = (n : Int) := ⟨N.toNat, by omega⟩
        subst hn
        refine v_iconst (n := 46) k dX4_feed_45 rfl ?_
        refine v_istore (n := 48) k dX4_feed_46 rfl (by decide) rfl rfl ?_
        have e0 := tpF_0 T tp Aw Bw
        refine v_ws (ws' := [oHash hx hd hch hb hh ht ha an, oDisk hd hc hk ko pg lg wt al dn, aN cI hc 65280 C, aN cI hk 255 K, oChange hch hd hj hi, oPage hb hbb, aN cI hbb 256 fb, oPage hh hhb, aN cI hhb 256 fh, oPage hj hjb, aN cI hjb 256 fj, oPage hi hib, aN cI hib 256 fi, oTape ht htb ((tp + 0 : Nat) : Int), aN cI htb 48 (tpF T tp Aw Bw 0), aN cI ha 32 An]) (by rw [e0]; rfl) ?_
        refine lp_X4_feed k (by omega) (by omega) ?_ (n + 1) 0 _ (by omega) (by omega) rfl
        refine v_aload_n (n := 99) k dX4_feed_98 rfl rfl ?_
        refine v_get (n := 102) k ciX4 0 4 (by decide) fl_X4_38 rfl rfl dX4_feed_99 rfl ?_
        refine v_rdVi (n := 105) k [13] 13 (z_X3_size) miX3_size ml_X4_67 (by decide) (by decide) rfl (by decide) rfl rfl rfl rfl (Nat.le_of_ble_eq_true rfl) ⟨Nat.zero_le _, Nat.zero_le _⟩ dX4_feed_102 rfl ?_
        refine v_iretX k hq ?_ rfl dX4_feed_105
        exact ⟨ht9, rfl, rfl⟩
      · refine v_throwX (is := 73) k hq ke th_UOE (List.mem_of_getElem? (i := 4) rfl) ⟨by decide, by decide, by decide, by decide⟩ ?_ rfl dX4_feed_35 dX4_feed_38 dX4_feed_39 dX4_feed_41 dX4_feed_44
        exact ⟨Or.inr ⟨rfl, (if_neg (by omega)).trans (if_pos (by omega))⟩, rfl⟩
    · refine v_throwX (is := 65) k hq ke th_IAE (List.mem_of_getElem? (i := 3) rfl) ⟨by decide, by decide, by decide, by decide⟩ ?_ rfl dX4_feed_11 dX4_feed_14 dX4_feed_15 dX4_feed_17 dX4_feed_20
      exact ⟨Or.inl ⟨rfl, if_pos (by omega)⟩, rfl⟩
