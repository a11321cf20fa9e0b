theorem ma_inv {pg lg h : Nat} (hh : h < 65536) : ∀ (n : Nat) {C : Nat → Nat} {wt al dn : Int} {s2 : Int} {a2 : DA}, INV pg lg C → sMA lg h n (C, wt, al, dn) = (s2, a2) → (s2 = 0 ∨ s2 = 2 ∨ s2 = 4) ∧ (s2 ≠ 4 → INV pg lg a2.1) := by
  intro n
  induction n with
  | zero =>
    intro C wt al dn s2 a2 hI e
    cases e
    exact ⟨Or.inl rfl, fun _ => hI⟩
  | succ n ih =>
    intro C wt al dn s2 a2 hI e
    have e' : (match mpN C h with | none => ((0 : Int), ((C, wt, al, dn) : DA)) | some o => if (sMrg (C, wt, al, dn) lg h o).1 = 0 then sMA lg h n (sMrg (C, wt, al, dn) lg h o).2 else sMrg (C, wt, al, dn) lg h o) = (s2, a2) := e
    cases e0 : mpN C h with
    | none => rw [e0] at e'; cases e'; exact ⟨Or.inl rfl, fun _ => hI⟩
    | some o =>
      rw [e0] at e'
      dsimp only at e'
      cases e1 : sMrg (C, wt, al, dn) lg h o with
      | mk s9 a9 =>
        rw [e1] at e'
        by_cases h0 : s9 = 0
        · subst h0
          have e2 : sMA lg h n a9 = (s2, a2) := (if_pos rfl).symm.trans e'
          obtain ⟨C9, wt9, al9, dn9⟩ := a9
          exact ih (mrg_inv hI hh e0 e1) e2
        · have e2 : (s9, a9) = (s2, a2) := (if_neg h0).symm.trans e'
          cases e2
          unfold sMrg at e1
          split at e1
          · cases e1; exact ⟨Or.inr (Or.inl rfl), fun _ => hI⟩
          · rcases stC_cs e1 with ⟨h9, -⟩ | ⟨h9, -⟩
            · exact absurd h9 h0
            · exact ⟨Or.inr (Or.inr h9), fun h8 => absurd h9 h8⟩
theorem ha_in {pg lg : Nat} : ∀ (n : Nat) {a : DA} {s2 : Int} {a2 : DA}, sHA pg lg n a = (s2, a2) → s2 = 0 ∨ s2 = 4 := by
  intro n
  induction n with
  | zero => intro a s2 a2 e; cases e; exact Or.inl rfl
  | succ n ih =>
    intro a s2 a2 e
    have e' : (if a.1 0 = 0 ∨ hbD a.1 pg lg (a.1 0) = true then ((0 : Int), a) else if (sRes a pg lg (a.1 0 - 1)).1 = 0 then sHA pg lg n (sRes a pg lg (a.1 0 - 1)).2 else (if (sRes a pg lg (a.1 0 - 1)).1 = 4 then 4 else 0, (sRes a pg lg (a.1 0 - 1)).2)) = (s2, a2) := e
    split at e'
    · cases e'; exact Or.inl rfl
    · split at e'
      · exact ih e'
      · cases e'
        split
        · exact Or.inr rfl
        · exact Or.inl rfl
set_option maxHeartbeats 1000000 in
set_option maxRecDepth 20000 in
theorem z_X4_remove {D : va_G} {cI cB cJ cZ : ClassId} {hx hd hc hk hch hb hbb hh hhb ht htb ha hj hi hjb hib : Nat} {an ko : Int} {pg lg : Nat} {wt al dn : Int} {tp : Nat} {C K fb fh fj fi T An : Nat → Nat}  (hdn : dn = 0 ∨ dn = 1) (hU : dn = 0 → INV pg lg C) (htp : tp ≤ 48) (hT : ∀ j, T j < 256) (hks : KS ko K C pg lg) (hal : in32 al) : ∀ l : Launch, l.stackTraces = false → Ux l yX4_remove cX4_remove 6 (some .int) ({ frames := 8, cells := 1, slots := 6, locals := 189 }) D (TY cI cB cJ cZ) [.ref hx] [oHash hx hd hch hb hh ht ha an, oDisk hd hc hk ko pg lg wt al dn, aN cI hc 65280 C, aN cI hk 255 K, oChange hch hd hj hi, oPage hb hbb, aN cI hbb 256 fb, oPage hh hhb, aN cI hhb 256 fh, oPage hj hjb, aN cI hjb 256 fj, oPage hi hib, aN cI hib 256 fi, oTape ht htb ((tp : Nat) : Int), aN cI htb 48 T, aN cI ha 32 An] (fun v w1 => rmT dn tp = 0 ∧ ∃ (a9 : DA) (s9 ko9 : Int) (K9 fb9 fh9 fj9 fi9 : Nat → Nat), rvF pg lg T tp (C, wt, al, 0) = (s9, a9) ∧ v = some (.int (iI s9)) ∧ KS ko9 K9 a9.1 pg lg ∧ in32 a9.2.2.1 ∧ w1 = [oHash hx hd hch hb hh ht ha an, oDisk hd hc hk ko9 pg lg a9.2.1 a9.2.2.1 a9.2.2.2, aN cI hc 65280 a9.1, aN cI hk 255 K9, oChange hch hd hj hi, oPage hb hbb, aN cI hbb 256 fb9, oPage hh hhb, aN cI hhb 256 fh9, oPage hj hjb, aN cI hjb 256 fj9, oPage hi hib, aN cI hib 256 fi9, oTape ht htb 0, aN cI htb 48 T, aN cI ha 32 An]) (fun E w1 => ((E = xISE ∧ rmT dn tp = 1) ∨ (E = xIAE ∧ rmT dn tp = 2)) ∧ w1 = [oHash hx hd hch hb hh ht ha an, oDisk hd hc hk ko pg lg wt al dn, aN cI hc 65280 C, aN cI hk 255 K, oChange hch hd hj hi, oPage hb hbb, aN cI hbb 256 fb, oPage hh hhb, aN cI hhb 256 fh, oPage hj hjb, aN cI hjb 256 fj, oPage hi hib, aN cI hib 256 fi, oTape ht htb 0, aN cI htb 48 T, aN cI ha 32 An]) := by
  intro l hst9
  refine Ux_of hst9 (by decide) (Nat.le_of_ble_eq_true rfl) (fun x k hq ke => ?_)
  refine v_aload_n (n := 1) k dX4_remove_0 rfl rfl ?_
  refine v_get (n := 4) k ciX4 0 4 (by decide) fl_X4_38 rfl rfl dX4_remove_1 rfl ?_
  refine v_upV (n := 7) k [13] 13 (z_X3_take) miX3_take ml_X4_80 (by decide) (by decide) rfl (by decide) rfl rfl rfl rfl (Nat.le_of_ble_eq_true rfl) ⟨Nat.zero_le _, Nat.zero_le _⟩ dX4_remove_4 rfl ?_
  rintro _ _ ⟨rfl, rfl⟩
  dsimp only [wput, List.set, Option.toList, List.nil_append, List.cons_append]
  refine v_istore_n (n := 8) k dX4_remove_7 rfl (by decide) rfl rfl ?_
  refine v_aload_n (n := 9) k dX4_remove_8 rfl rfl ?_
  refine v_get (n := 12) k ciX4 0 0 (by decide) fl_X4_10 rfl rfl dX4_remove_9 rfl ?_
  refine v_rdVi (n := 15) k [1] 1 (z_X1_isDown hdn) miX1_isDown ml_X4_83 (by decide) (by decide) rfl (by decide) rfl rfl rfl rfl (Nat.le_of_ble_eq_true rfl) ⟨Nat.zero_le _, Nat.zero_le _⟩ dX4_remove_12 rfl ?_
  refine v_if_eq (n := 18) (t := 28) k (⟨by omega, by omega⟩) dX4_remove_15 (by decide) rfl (fun c_15 => ?_) (fun c_15 => ?_)
  · have hd0 : dn = 0 := by omega
    subst hd0
    refine v_iload_n (n := 29) k dX4_remove_28 rfl rfl ?_
    refine v_iconst (n := 30) k dX4_remove_29 rfl ?_
    refine v_icmp_lt (n := 33) (t := 39) k (⟨by omega, by omega⟩) (⟨by omega, by omega⟩) dX4_remove_30 (by decide) rfl (fun c_30 => ?_) (fun c_30 => ?_)
    · refine v_throwX (is := 110) k hq ke th_IAE (List.mem_of_getElem? (i := 8) rfl) ⟨by decide, by decide, by decide, by decide⟩ ?_ rfl dX4_remove_39 dX4_remove_42 dX4_remove_43 dX4_remove_45 dX4_remove_48
      exact ⟨Or.inr ⟨rfl, (if_neg (by decide)).trans (if_pos (by omega))⟩, rfl⟩
    · refine v_iload_n (n := 34) k dX4_remove_33 rfl rfl ?_
      refine v_bipush (n := 36) k dX4_remove_34 (by decide) rfl ?_
      refine v_icmp_le (n := 39) (t := 49) k (⟨by omega, by omega⟩) (⟨by omega, by omega⟩) dX4_remove_36 (by decide) rfl (fun c_36 => ?_) (fun c_36 => ?_)
      · have ht9 : rmT 0 tp = 0 := (if_neg (by decide)).trans (if_neg (by omega))
        obtain ⟨hF, hj9⟩ := hU rfl
        obtain ⟨w1, w2, w3, w4, w5, w6, w7⟩ := id hF.1.1
        have hh9 := hsh_lt T 0 tp
        have hx9 := idx_lt (C := C) hh9 w4
        obtain ⟨p1, p2, p3, p4, p5⟩ := hF.2.1 _ hx9
        have hw252 := p4.2.2
        refine v_aload_n (n := 50) k dX4_remove_49 rfl rfl ?_
        refine v_get (n := 53) k ciX4 0 4 (by decide) fl_X4_38 rfl rfl dX4_remove_50 rfl ?_
        refine v_iload_n (n := 54) k dX4_remove_53 rfl rfl ?_
        refine v_rdVi (n := 57) k [13, 14] 13 (z_X3_keyHash (z := tp) rfl htp) miX3_keyHash ml_X4_96 (by decide) (by decide) rfl (by decide) rfl rfl rfl rfl (Nat.le_of_ble_eq_true rfl) ⟨Nat.zero_le _, Nat.zero_le _⟩ dX4_remove_54 rfl ?_
        refine v_istore_n (n := 58) k dX4_remove_57 rfl (by decide) rfl rfl ?_
        refine v_aload_n (n := 59) k dX4_remove_58 rfl rfl ?_
        refine v_get (n := 62) k ciX4 0 0 (by decide) fl_X4_10 rfl rfl dX4_remove_59 rfl ?_
        refine v_iload_n (n := 63) k dX4_remove_62 rfl rfl ?_
        refine v_rdVi (n := 66) k [1, 2] 1 (z_X1_bucketOf (h := hsh T 0 tp) hF.1.1 rfl hh9) miX1_bucketOf ml_X4_104 (by decide) (by decide) rfl (by decide) rfl rfl rfl rfl (Nat.le_of_ble_eq_true rfl) ⟨Nat.zero_le _, Nat.zero_le _⟩ dX4_remove_63 rfl ?_
        refine v_istore_n (n := 67) k dX4_remove_66 rfl (by decide) rfl rfl ?_
        refine v_aload_n (n := 68) k dX4_remove_67 rfl rfl ?_
        refine v_get (n := 71) k ciX4 0 0 (by decide) fl_X4_10 rfl rfl dX4_remove_68 rfl ?_
        refine v_iload_n (n := 72) k dX4_remove_71 rfl rfl ?_
        refine v_aload_n (n := 73) k dX4_remove_72 rfl rfl ?_
        refine v_get (n := 76) k ciX4 0 4 (by decide) fl_X4_38 rfl rfl dX4_remove_73 rfl ?_
        refine v_iload_n (n := 77) k dX4_remove_76 rfl rfl ?_
        refine v_rdVi (n := 80) k [1, 2, 13, 14] 1 (z_X1_find (p := entN C (idx C (hsh T 0 tp))) (z := tp) rfl p2 w2 rfl htp p4 w3 hT) miX1_find ml_X4_112 (by decide) (by decide) rfl (by decide) rfl rfl rfl rfl (Nat.le_of_ble_eq_true rfl) ⟨Nat.zero_le _, Nat.zero_le _⟩ dX4_remove_77 rfl ?_
        have hfi : (∃ r9, fnd C (entN C (idx C (hsh T 0 tp))) T tp = some r9 ∧ fndI C (entN C (idx C (hsh T 0 tp))) T tp = ((rst C (entN C (idx C (hsh T 0 tp))) r9 : Nat) : Int)) ∨ (fnd C (entN C (idx C (hsh T 0 tp))) T tp = none ∧ fndI C (entN C (idx C (hsh T 0 tp))) T tp = -1) := by
          unfold fndI
          cases hq9 : fnd C (entN C (idx C (hsh T 0 tp))) T tp with
          | some z => exact Or.inl ⟨z, rfl, rfl⟩
          | none => exact Or.inr ⟨rfl, rfl⟩
        have hfb := fndI_in (T := T) (ks := tp) p4
        refine v_istore (n := 82) k dX4_remove_80 rfl (by decide) rfl rfl ?_
        refine v_iload (n := 84) k dX4_remove_82 rfl rfl ?_
        refine v_iconst (n := 85) k dX4_remove_84 rfl ?_
        refine v_icmp_ne (n := 88) (t := 90) k (hfb) (⟨by decide, by decide⟩) dX4_remove_85 (by decide) rfl (fun c_85 => ?_) (fun c_85 => ?_)
        · obtain ⟨r9, hr9, -⟩ : ∃ r9, fnd C (entN C (idx C (hsh T 0 tp))) T tp = some r9 ∧ fndI C (entN C (idx C (hsh T 0 tp))) T tp = ((rst C (entN C (idx C (hsh T 0 tp))) r9 : Nat) : Int) := by
            rcases hfi with h9 | ⟨-, h9⟩
            · exact h9
            · exact absurd h9 c_85
          clear hfi
          have hrv : rvF pg lg T tp (C, wt, al, 0) = rmF pg lg (hsh T 0 tp) (entN C (idx C (hsh T 0 tp))) (bpg (pb C (entN C (idx C (hsh T 0 tp))) 0) (wL C (entN C (idx C (hsh T 0 tp))) T tp)) (C, wt, al, 0) := by
            unfold rvF
            rw [show fnd (C, wt, al, (0 : Int)).1 (entN (C, wt, al, (0 : Int)).1 (idx (C, wt, al, (0 : Int)).1 (hsh T 0 tp))) T tp = some r9 from hr9]
          have hlen : (wL C (entN C (idx C (hsh T 0 tp))) T tp).length ≤ pb C (entN C (idx C (hsh T 0 tp))) 1 := recS_len _ _ _ _
          have hcn := p4.count
          have hfl : (wL C (entN C (idx C (hsh T 0 tp))) T tp).flatten.length ≤ bL C (entN C (idx C (hsh T 0 tp))) := recS_le p4
          have hpd : pb C (entN C (idx C (hsh T 0 tp))) 0 < 256 := w3 _
          have hbp : BPG (bpg (pb C (entN C (idx C (hsh T 0 tp))) 0) (wL C (entN C (idx C (hsh T 0 tp))) T tp)) := ⟨⟨_, _, fun _ _ => rfl, VR_recS p4 (Nat.le_refl _), Nat.le_trans hfl hw252⟩, fun i _ => bpg_lt (rs := wL C (entN C (idx C (hsh T 0 tp))) T tp) hpd (by omega) (by omega) (recS_lt w3) i⟩
          have hF2 := FULL_wr hF hx9 hbp rfl
          refine v_aload_n (n := 91) k dX4_remove_90 rfl rfl ?_
          refine v_iload_n (n := 92) k dX4_remove_91 rfl rfl ?_
          refine v_iload (n := 94) k dX4_remove_92 rfl rfl ?_
          refine v_upV (n := 97) k [0, 1, 2, 5, 6] 0 (z_X4_buildWithout (p := entN C (idx C (hsh T 0 tp))) rfl p2 w2 p4 w3 hfb) miX4_buildWithout ml_X4_116 (by decide) (by decide) rfl (by decide) rfl rfl rfl rfl (Nat.le_of_ble_eq_true rfl) ⟨Nat.zero_le _, Nat.zero_le _⟩ dX4_remove_94 rfl ?_
          rintro _ _ ⟨rfl, rfl⟩
          dsimp only [wput, List.set, Option.toList, List.nil_append, List.cons_append]
          refine v_aload_n (n := 98) k dX4_remove_97 rfl rfl ?_
          refine v_get (n := 101) k ciX4 0 0 (by decide) fl_X4_10 rfl rfl dX4_remove_98 rfl ?_
          refine v_iload_n (n := 102) k dX4_remove_101 rfl rfl ?_
          refine v_aload_n (n := 103) k dX4_remove_102 rfl rfl ?_
          refine v_get (n := 106) k ciX4 0 2 (by decide) fl_X4_28 rfl rfl dX4_remove_103 rfl ?_
          refine v_upV (n := 109) k [1, 2, 3, 5, 6] 1 (z_X1_writeS (p := entN C (idx C (hsh T 0 tp))) rfl p2 w2 hal hks) miX1_write ml_X4_120 (by decide) (by decide) rfl (by decide) rfl rfl rfl rfl (Nat.le_of_ble_eq_true rfl) ⟨Nat.zero_le _, Nat.zero_le _⟩ dX4_remove_106 rfl ?_
          rintro _ _ ⟨b1, C2, wt2, al2, dn2, ko2, hs1, hks1, hal1, rfl, rfl⟩
          dsimp only [wput, List.set, Option.toList, List.nil_append, List.cons_append]
          refine v_if_ne (n := 112) (t := 114) k (bI_in _) dX4_remove_109 (by decide) rfl (fun c_109 => ?_) (fun c_109 => ?_)
          · have hb := bI_n0 c_109
            subst hb
            have hst : stC (sW (C, wt, al, 0) (entN C (idx C (hsh T 0 tp))) (bpg (pb C (entN C (idx C (hsh T 0 tp))) 0) (wL C (entN C (idx C (hsh T 0 tp))) T tp))) = (0, C2, wt2, al2, dn2) := by
              rw [show sW (C, wt, al, 0) (entN C (idx C (hsh T 0 tp))) (bpg (pb C (entN C (idx C (hsh T 0 tp))) 0) (wL C (entN C (idx C (hsh T 0 tp))) T tp)) = (true, C2, wt2, al2, dn2) from hs1]
              rfl
            have hI2 : INV pg lg C2 := by
              rcases wr_run (wt := wt) (al := al) hF hj9 hF2 (by omega) hs1 with ⟨-, h1, -⟩ | ⟨h1, -⟩
              · exact ⟨h1.2.2.2, h1.2.2.1⟩
              · cases h1
            refine v_aload_n (n := 115) k dX4_remove_114 rfl rfl ?_
            refine v_iload_n (n := 116) k dX4_remove_115 rfl rfl ?_
            refine v_upV (n := 119) k [0, 1, 2, 3, 4, 5, 6, 9, 10, 11, 12] 0 (z_X4_mergeAll (h := hsh T 0 tp) (INV := INV pg lg) rfl hh9 (fun C9 h9 => h9.1.eok) (fun C9 wt9 al9 dn9 C8 wt8 al8 dn8 o9 h9 m9 e9 => mrg_inv h9 hh9 m9 e9) hI2 hks1 hal1) miX4_mergeAll ml_X4_124 (by decide) (by decide) rfl (by decide) rfl rfl rfl rfl (Nat.le_of_ble_eq_true rfl) ⟨Nat.zero_le _, Nat.zero_le _⟩ dX4_remove_116 rfl ?_
            rintro _ _ ⟨s3, C3, wt3, al3, dn3, ko3, fb3, fj3, fi3, hma, hks3, hal3, rfl, rfl⟩
            dsimp only [wput, List.set, Option.toList, List.nil_append, List.cons_append]
            obtain ⟨hs3, hi3⟩ := ma_inv hh9 64 hI2 hma
            have hs32 : in32 s3 := by rcases hs3 with h | h | h <;> (rw [h]; exact ⟨by decide, by decide⟩)
            refine v_istore (n := 121) k dX4_remove_119 rfl (by decide) rfl rfl ?_
            refine v_iload (n := 123) k dX4_remove_121 rfl rfl ?_
            refine v_iconst (n := 124) k dX4_remove_123 rfl ?_
            refine v_icmp_ne (n := 127) (t := 131) k (hs32) (⟨by decide, by decide⟩) dX4_remove_124 (by decide) rfl (fun c_124 => ?_) (fun c_124 => ?_)
            · have hI3 : INV pg lg C3 := hi3 (by omega)
              refine v_aload_n (n := 132) k dX4_remove_131 rfl rfl ?_
              refine v_upV (n := 135) k [0, 1, 2, 3, 4, 5, 6, 7, 8, 9, 10, 11, 12] 0 (z_X4_halveAll (INV := INV pg lg) (fun C9 h9 => h9.1.eok) (fun C9 wt9 al9 dn9 C8 wt8 al8 dn8 h9 z9 b9 e9 => sRes_inv h9 (Or.inr ⟨by omega, b9⟩) e9) hI3 hks3 hal3) miX4_halveAll ml_X4_127 (by decide) (by decide) rfl (by decide) rfl rfl rfl rfl (Nat.le_of_ble_eq_true rfl) ⟨Nat.zero_le _, Nat.zero_le _⟩ dX4_remove_132 rfl ?_
              rintro _ _ ⟨s4, C4, wt4, al4, dn4, ko4, K4, fb4, fh4, fj4, fi4, hha, hks4, hal4, rfl, rfl⟩
              dsimp only [wput, List.set, Option.toList, List.nil_append, List.cons_append]
              refine v_iretX k hq ?_ rfl dX4_remove_135
              refine ⟨ht9, (C4, wt4, al4, dn4), s4, ko4, K4, fb4, fh4, fj4, fi4, ?_, rfl, hks4, hal4, rfl⟩
              rw [hrv, rmF_0 hst, hma]
              exact (if_neg (by show ¬ s3 = 4; omega)).trans hha
            · refine v_iconst (n := 128) k dX4_remove_127 rfl ?_
              refine v_goto (t := 135) k dX4_remove_128 (by decide) ?_
              refine v_iretX k hq ?_ rfl dX4_remove_135
              refine ⟨ht9, (C3, wt3, al3, dn3), 4, ko3, K, fb3, fh, fj3, fi3, ?_, rfl, hks3, hal3, rfl⟩
              rw [hrv, rmF_0 hst, hma]
              exact if_pos (by show s3 = 4; omega)
          · have hb := bI_e0 (by simpa using c_109)
            subst hb
            refine v_iconst (n := 113) k dX4_remove_112 rfl ?_
            refine v_iretX k hq ?_ rfl dX4_remove_113
            refine ⟨ht9, (C2, wt2, al2, dn2), 4, ko2, K, _, fh, fj, fi, hrv.trans (rmF_s (by rw [show sW (C, wt, al, 0) (entN C (idx C (hsh T 0 tp))) (bpg (pb C (entN C (idx C (hsh T 0 tp))) 0) (wL C (entN C (idx C (hsh T 0 tp))) T tp)) = (false, C2, wt2, al2, dn2) from hs1]; rfl) (by decide)), rfl, hks1, hal1, rfl⟩
        · have hfn : fnd C (entN C (idx C (hsh T 0 tp))) T tp = none := by
            rcases hfi with ⟨r9, -, h9⟩ | ⟨h9, -⟩
            · omega
            · exact h9
          refine v_iconst (n := 89) k dX4_remove_88 rfl ?_
          refine v_iretX k hq ?_ rfl dX4_remove_89
          refine ⟨ht9, (C, wt, al, 0), -1, ko, K, fb, fh, fj, fi, ?_, rfl, hks, hal, rfl⟩
          unfold rvF
          rw [show fnd (C, wt, al, (0 : Int)).1 (entN (C, wt, al, (0 : Int)).1 (idx (C, wt, al, (0 : Int)).1 (hsh T 0 tp))) T tp = none from hfn]
      · refine v_throwX (is := 110) k hq ke th_IAE (List.mem_of_getElem? (i := 8) rfl) ⟨by decide, by decide, by decide, by decide⟩ ?_ rfl dX4_remove_39 dX4_remove_42 dX4_remove_43 dX4_remove_45 dX4_remove_48
        exact ⟨Or.inr ⟨rfl, (if_neg (by decide)).trans (if_pos (by omega))⟩, rfl⟩
  · refine v_throwX (is := 89) k hq ke th_ISE (List.mem_of_getElem? (i := 5) rfl) ⟨by decide, by decide, by decide, by decide⟩ ?_ rfl dX4_remove_18 dX4_remove_21 dX4_remove_22 dX4_remove_24 dX4_remove_27
    exact ⟨Or.inl ⟨rfl, if_pos (by omega)⟩, rfl⟩
