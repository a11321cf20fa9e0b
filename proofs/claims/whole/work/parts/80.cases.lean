set_option maxHeartbeats 1000000 in
set_option maxRecDepth 20000 in
theorem st_law_5 {D : va_G} {cI cB cJ cZ : ClassId} {x : Kx} {A : Nat → Prop} {cells slots i L b : Nat} {xs : Nat → Int32} {hx hd hc hk hch hb hbb hh hhb ht htb ha hj hi hjb hib : Nat} {hm : Nat} {r : Nat → Nat} {ho : Nat} {pg lg : Nat} {C : Nat → Nat} {wt al dn ko : Int} {K fb fh fj fi : Nat → Nat} {tp : Nat} {T : Nat → Nat} {an : Nat} {An : Nat → Nat} {th : Int} {Cm Dr En Ot : Nat → Nat} {Ib : Nat → Bool} {Bd Mn : Nat → Nat} {q : RQ} {Ou Cg : Nat → Nat} {ch : Nat} {O : Nat → Int64} (k : Kf x cL_law 7 RL (some .boolean) D (TY cI cB cJ cZ) room_1) (kt : Kt A x.2.2.2.2.1 x.2.2.2.2.1.heap) (hst9 : x.2.1.stackTraces = false) (hX : SCR x A b L xs) (hi6 : i + 6 ≤ L) (hcs : cells + 1 ≤ 601024 ∧ slots + 6 ≤ 7293034) (hS : SI pg lg (C, wt, al, dn) ko K Cm Dr En Ib Bd Mn q Cg tp T an An) (hk9 : ∀ (pg lg : Nat) (a : DA) (ko : Int) (K fb fh fj fi : Nat → Nat) (tp : Nat) (T : Nat → Nat) (an : Nat) (An : Nat → Nat) (th : Int) (Cm Dr En Ot : Nat → Nat) (Ib : Nat → Bool) (Bd Mn : Nat → Nat) (q : RQ) (Ou Cg : Nat → Nat) (ch : Nat) (O : Nat → Int64), SI pg lg a ko K Cm Dr En Ib Bd Mn q Cg tp T an An → Vw x 7 A D true (cells + 1) (slots + 6) [oHash hx hd hch hb hh ht ha ((an : Nat) : Int), oDisk hd hc hk ko pg lg a.2.1 a.2.2.1 a.2.2.2, aN cI hc 65280 a.1, aN cI hk 255 K, oChange hch hd hj hi, oPage hb hbb, aN cI hbb 256 fb, oPage hh hhb, aN cI hhb 256 fh, oPage hj hjb, aN cI hjb 256 fj, oPage hi hib, aN cI hib 256 fi, oTape ht htb ((tp : Nat) : Int), aN cI htb 48 T, aN cI ha 32 An, oM hm r (th) (pg) (lg) (a.2.1) (a.2.2.1) (a.2.2.2) (a.1 0) (pF (a.1 0)) (tp) (an) (ch), aB cB (r 0) 65536 (Cm), aN cI (r 1) 256 (Dr), aN cI (r 2) 65536 (En), aN cI (r 3) 65536 (Ot), aZ cZ (r 4) 256 (Ib), aN cI (r 5) 256 (Bd), aN cI (r 6) 256 (Mn), aN cI (r 7) 23040 (q).1, aN cI (r 8) 23040 (q).2.1, aL cJ (r 9) 46080 (q).2.2.1, aL cJ (r 10) 92160 (q).2.2.2, aB cB (r 11) 48 (T), aB cB (r 12) 32 (An), aN cI (r 13) 256 (Ou), aN cI (r 14) 256 (Cg), aL cJ ho 1 O] 792 [(0, .ref b), (1, .ref hx), (2, .ref hm), (3, .ref ho), (4, .int (iI ((i : Nat) : Int)))] []) : Vw x 7 A D true cells slots [oHash hx hd hch hb hh ht ha ((an : Nat) : Int), oDisk hd hc hk ko pg lg wt al dn, aN cI hc 65280 C, aN cI hk 255 K, oChange hch hd hj hi, oPage hb hbb, aN cI hbb 256 fb, oPage hh hhb, aN cI hhb 256 fh, oPage hj hjb, aN cI hjb 256 fj, oPage hi hib, aN cI hib 256 fi, oTape ht htb ((tp : Nat) : Int), aN cI htb 48 T, aN cI ha 32 An, oM hm r (th) (pg) (lg) (wt) (al) (dn) (C 0) (pF (C 0)) (tp) (an) (ch), aB cB (r 0) 65536 (Cm), aN cI (r 1) 256 (Dr), aN cI (r 2) 65536 (En), aN cI (r 3) 65536 (Ot), aZ cZ (r 4) 256 (Ib), aN cI (r 5) 256 (Bd), aN cI (r 6) 256 (Mn), aN cI (r 7) 23040 (q).1, aN cI (r 8) 23040 (q).2.1, aL cJ (r 9) 46080 (q).2.2.1, aL cJ (r 10) 92160 (q).2.2.2, aB cB (r 11) 48 (T), aB cB (r 12) 32 (An), aN cI (r 13) 256 (Ou), aN cI (r 14) 256 (Cg), aL cJ ho 1 O] 452 [(0, .ref b), (1, .ref hx), (2, .ref hm), (3, .ref ho), (4, .int (iI ((i : Nat) : Int)))] [] := by
  obtain ⟨hSD, hks, hRI, htp, hT, han, hAn⟩ := id hS
  obtain ⟨hA, hal, hR, hGc⟩ := id hRI
  replace hA : AGP pg Cm C := hA
  replace hal : in32 al := hal
  replace hR : RM C lg Dr En Ib Bd Mn q := hR
  replace hks : KS ko K C pg lg := hks
  have hC : ∀ j, C j < 256 := hSD.bt
  have hdn : dn = 0 ∨ dn = 1 := hSD.dn
  have hda : dn = 0 ∨ (dn = 1 ∧ al = 0) := hSD.da
  have hU : dn = 0 → INV pg lg C := hSD.up
  have hw : DW C pg lg := hSD.ok.1
  have hE : EB C pg lg := hSD.ok.2
  have hDN : DNS C pg lg := hSD.dns
  have w2 := hw.2.1
  have hL9 := hX.2.2.2
  refine v_aload_n (n := 453) k dL_law_452 rfl rfl ?_
  refine v_aload_n (n := 454) k dL_law_453 rfl rfl ?_
  refine v_iload (n := 456) k dL_law_454 rfl rfl ?_
  refine v_iconst (n := 457) k dL_law_456 rfl ?_
  refine v_iadd (n := 458) k dL_law_457 rfl ?_
  refine v_xald (n := 459) k hX (i + 1) (by omega) (by omega) dL_law_458 rfl ?_
  refine v_rdVi (n := 462) k [0, 15] 0 (z_X4_answer (xI_in xs _) ⟨by omega, by omega⟩) miX4_answer ml_L_71 (by decide) (by decide) rfl (by decide) rfl rfl rfl rfl (Nat.le_of_ble_eq_true rfl) (by rw [k.2.2.2.2.2.2.2.2]; exact ⟨by show _ ≤ 601024; omega, by show _ ≤ 7293034; omega⟩) dL_law_459 rfl ?_
  refine v_aload_n (n := 463) k dL_law_462 rfl rfl ?_
  refine v_aload_n (n := 464) k dL_law_463 rfl rfl ?_
  refine v_iload (n := 466) k dL_law_464 rfl rfl ?_
  refine v_iconst (n := 467) k dL_law_466 rfl ?_
  refine v_iadd (n := 468) k dL_law_467 rfl ?_
  refine v_xald (n := 469) k hX (i + 1) (by omega) (by omega) dL_law_468 rfl ?_
  refine v_upV (n := 472) k [16, 29] 16 (z_X5_answer (C := C) (xI_in xs _) han hAn) miX5_answer ml_L_74 (by decide) (by decide) rfl (by decide) rfl rfl rfl rfl (Nat.le_of_ble_eq_true rfl) (by rw [k.2.2.2.2.2.2.2.2]; exact ⟨by show _ ≤ 601024; omega, by show _ ≤ 7293034; omega⟩) dL_law_469 rfl ?_
  rintro _ _ ⟨rfl, rfl⟩
  dsimp only [wput, List.set, Option.toList, List.nil_append, List.cons_append]
  refine v_icmpS (t := 792) k (rfl) dL_law_472 (by decide) ?_
  refine v_wide (Nat.le_succ _) (Nat.le_add_right _ 6) ?_
  exact hk9 pg lg (C, wt, al, dn) ko K fb fh fj fi tp T an An 0 Cm Dr En Ot Ib Bd Mn q Ou Cg ch O hS
set_option maxHeartbeats 1000000 in
set_option maxRecDepth 20000 in
theorem st_law_8 {D : va_G} {cI cB cJ cZ : ClassId} {x : Kx} {A : Nat → Prop} {cells slots i L b : Nat} {xs : Nat → Int32} {hx hd hc hk hch hb hbb hh hhb ht htb ha hj hi hjb hib : Nat} {hm : Nat} {r : Nat → Nat} {ho : Nat} {pg lg : Nat} {C : Nat → Nat} {wt al dn ko : Int} {K fb fh fj fi : Nat → Nat} {tp : Nat} {T : Nat → Nat} {an : Nat} {An : Nat → Nat} {th : Int} {Cm Dr En Ot : Nat → Nat} {Ib : Nat → Bool} {Bd Mn : Nat → Nat} {q : RQ} {Ou Cg : Nat → Nat} {ch : Nat} {O : Nat → Int64} (k : Kf x cL_law 7 RL (some .boolean) D (TY cI cB cJ cZ) room_1) (kt : Kt A x.2.2.2.2.1 x.2.2.2.2.1.heap) (hst9 : x.2.1.stackTraces = false) (hX : SCR x A b L xs) (hi6 : i + 6 ≤ L) (hcs : cells + 1 ≤ 601024 ∧ slots + 6 ≤ 7293034) (hS : SI pg lg (C, wt, al, dn) ko K Cm Dr En Ib Bd Mn q Cg tp T an An) (hk9 : ∀ (pg lg : Nat) (a : DA) (ko : Int) (K fb fh fj fi : Nat → Nat) (tp : Nat) (T : Nat → Nat) (an : Nat) (An : Nat → Nat) (th : Int) (Cm Dr En Ot : Nat → Nat) (Ib : Nat → Bool) (Bd Mn : Nat → Nat) (q : RQ) (Ou Cg : Nat → Nat) (ch : Nat) (O : Nat → Int64), SI pg lg a ko K Cm Dr En Ib Bd Mn q Cg tp T an An → Vw x 7 A D true (cells + 1) (slots + 6) [oHash hx hd hch hb hh ht ha ((an : Nat) : Int), oDisk hd hc hk ko pg lg a.2.1 a.2.2.1 a.2.2.2, aN cI hc 65280 a.1, aN cI hk 255 K, oChange hch hd hj hi, oPage hb hbb, aN cI hbb 256 fb, oPage hh hhb, aN cI hhb 256 fh, oPage hj hjb, aN cI hjb 256 fj, oPage hi hib, aN cI hib 256 fi, oTape ht htb ((tp : Nat) : Int), aN cI htb 48 T, aN cI ha 32 An, oM hm r (th) (pg) (lg) (a.2.1) (a.2.2.1) (a.2.2.2) (a.1 0) (pF (a.1 0)) (tp) (an) (ch), aB cB (r 0) 65536 (Cm), aN cI (r 1) 256 (Dr), aN cI (r 2) 65536 (En), aN cI (r 3) 65536 (Ot), aZ cZ (r 4) 256 (Ib), aN cI (r 5) 256 (Bd), aN cI (r 6) 256 (Mn), aN cI (r 7) 23040 (q).1, aN cI (r 8) 23040 (q).2.1, aL cJ (r 9) 46080 (q).2.2.1, aL cJ (r 10) 92160 (q).2.2.2, aB cB (r 11) 48 (T), aB cB (r 12) 32 (An), aN cI (r 13) 256 (Ou), aN cI (r 14) 256 (Cg), aL cJ ho 1 O] 792 [(0, .ref b), (1, .ref hx), (2, .ref hm), (3, .ref ho), (4, .int (iI ((i : Nat) : Int)))] []) : Vw x 7 A D true cells slots [oHash hx hd hch hb hh ht ha ((an : Nat) : Int), oDisk hd hc hk ko pg lg wt al dn, aN cI hc 65280 C, aN cI hk 255 K, oChange hch hd hj hi, oPage hb hbb, aN cI hbb 256 fb, oPage hh hhb, aN cI hhb 256 fh, oPage hj hjb, aN cI hjb 256 fj, oPage hi hib, aN cI hib 256 fi, oTape ht htb ((tp : Nat) : Int), aN cI htb 48 T, aN cI ha 32 An, oM hm r (th) (pg) (lg) (wt) (al) (dn) (C 0) (pF (C 0)) (tp) (an) (ch), aB cB (r 0) 65536 (Cm), aN cI (r 1) 256 (Dr), aN cI (r 2) 65536 (En), aN cI (r 3) 65536 (Ot), aZ cZ (r 4) 256 (Ib), aN cI (r 5) 256 (Bd), aN cI (r 6) 256 (Mn), aN cI (r 7) 23040 (q).1, aN cI (r 8) 23040 (q).2.1, aL cJ (r 9) 46080 (q).2.2.1, aL cJ (r 10) 92160 (q).2.2.2, aB cB (r 11) 48 (T), aB cB (r 12) 32 (An), aN cI (r 13) 256 (Ou), aN cI (r 14) 256 (Cg), aL cJ ho 1 O] 569 [(0, .ref b), (1, .ref hx), (2, .ref hm), (3, .ref ho), (4, .int (iI ((i : Nat) : Int)))] [] := by
  obtain ⟨hSD, hks, hRI, htp, hT, han, hAn⟩ := id hS
  obtain ⟨hA, hal, hR, hGc⟩ := id hRI
  replace hA : AGP pg Cm C := hA
  replace hal : in32 al := hal
  replace hR : RM C lg Dr En Ib Bd Mn q := hR
  replace hks : KS ko K C pg lg := hks
  have hC : ∀ j, C j < 256 := hSD.bt
  have hdn : dn = 0 ∨ dn = 1 := hSD.dn
  have hda : dn = 0 ∨ (dn = 1 ∧ al = 0) := hSD.da
  have hU : dn = 0 → INV pg lg C := hSD.up
  have hw : DW C pg lg := hSD.ok.1
  have hE : EB C pg lg := hSD.ok.2
  have hDN : DNS C pg lg := hSD.dns
  have w2 := hw.2.1
  have hL9 := hX.2.2.2
  refine v_aload_n (n := 570) k dL_law_569 rfl rfl ?_
  refine v_aload_n (n := 571) k dL_law_570 rfl rfl ?_
  refine v_iload (n := 573) k dL_law_571 rfl rfl ?_
  refine v_iconst (n := 574) k dL_law_573 rfl ?_
  refine v_iadd (n := 575) k dL_law_574 rfl ?_
  refine v_xald (n := 576) k hX (i + 1) (by omega) (by omega) dL_law_575 rfl ?_
  refine v_aload_n (n := 577) k dL_law_576 rfl rfl ?_
  refine v_iload (n := 579) k dL_law_577 rfl rfl ?_
  refine v_iconst (n := 580) k dL_law_579 rfl ?_
  refine v_iadd (n := 581) k dL_law_580 rfl ?_
  refine v_xald (n := 582) k hX (i + 2) (by omega) (by omega) dL_law_581 rfl ?_
  refine v_rdVi (n := 585) k [0, 1, 2] 0 (z_X4_byteOf (xI_in xs _) (xI_in xs _) w2) miX4_byteOf ml_L_82 (by decide) (by decide) rfl (by decide) rfl rfl rfl rfl (Nat.le_of_ble_eq_true rfl) (by rw [k.2.2.2.2.2.2.2.2]; exact ⟨by show _ ≤ 601024; omega, by show _ ≤ 7293034; omega⟩) dL_law_582 rfl ?_
  refine v_aload_n (n := 586) k dL_law_585 rfl rfl ?_
  refine v_aload_n (n := 587) k dL_law_586 rfl rfl ?_
  refine v_iload (n := 589) k dL_law_587 rfl rfl ?_
  refine v_iconst (n := 590) k dL_law_589 rfl ?_
  refine v_iadd (n := 591) k dL_law_590 rfl ?_
  refine v_xald (n := 592) k hX (i + 1) (by omega) (by omega) dL_law_591 rfl ?_
  refine v_aload_n (n := 593) k dL_law_592 rfl rfl ?_
  refine v_iload (n := 595) k dL_law_593 rfl rfl ?_
  refine v_iconst (n := 596) k dL_law_595 rfl ?_
  refine v_iadd (n := 597) k dL_law_596 rfl ?_
  refine v_xald (n := 598) k hX (i + 2) (by omega) (by omega) dL_law_597 rfl ?_
  refine v_upV (n := 601) k [16, 17] 16 (z_X5_byteOf (xI_in xs _) (xI_in xs _) w2 hA) miX5_byteOf ml_L_86 (by decide) (by decide) rfl (by decide) rfl rfl rfl rfl (Nat.le_of_ble_eq_true rfl) (by rw [k.2.2.2.2.2.2.2.2]; exact ⟨by show _ ≤ 601024; omega, by show _ ≤ 7293034; omega⟩) dL_law_598 rfl ?_
  rintro _ _ ⟨rfl, rfl⟩
  dsimp only [wput, List.set, Option.toList, List.nil_append, List.cons_append]
  refine v_icmpS (t := 792) k (rfl) dL_law_601 (by decide) ?_
  refine v_wide (Nat.le_succ _) (Nat.le_add_right _ 6) ?_
  exact hk9 pg lg (C, wt, al, dn) ko K fb fh fj fi tp T an An 0 Cm Dr En Ot Ib Bd Mn q Ou Cg ch O hS
set_option maxHeartbeats 1000000 in
set_option maxRecDepth 20000 in
theorem st_law_9 {D : va_G} {cI cB cJ cZ : ClassId} {x : Kx} {A : Nat → Prop} {cells slots i L b : Nat} {xs : Nat → Int32} {hx hd hc hk hch hb hbb hh hhb ht htb ha hj hi hjb hib : Nat} {hm : Nat} {r : Nat → Nat} {ho : Nat} {pg lg : Nat} {C : Nat → Nat} {wt al dn ko : Int} {K fb fh fj fi : Nat → Nat} {tp : Nat} {T : Nat → Nat} {an : Nat} {An : Nat → Nat} {th : Int} {Cm Dr En Ot : Nat → Nat} {Ib : Nat → Bool} {Bd Mn : Nat → Nat} {q : RQ} {Ou Cg : Nat → Nat} {ch : Nat} {O : Nat → Int64} (k : Kf x cL_law 7 RL (some .boolean) D (TY cI cB cJ cZ) room_1) (kt : Kt A x.2.2.2.2.1 x.2.2.2.2.1.heap) (hst9 : x.2.1.stackTraces = false) (hX : SCR x A b L xs) (hi6 : i + 6 ≤ L) (hcs : cells + 1 ≤ 601024 ∧ slots + 6 ≤ 7293034) (hS : SI pg lg (C, wt, al, dn) ko K Cm Dr En Ib Bd Mn q Cg tp T an An) (hk9 : ∀ (pg lg : Nat) (a : DA) (ko : Int) (K fb fh fj fi : Nat → Nat) (tp : Nat) (T : Nat → Nat) (an : Nat) (An : Nat → Nat) (th : Int) (Cm Dr En Ot : Nat → Nat) (Ib : Nat → Bool) (Bd Mn : Nat → Nat) (q : RQ) (Ou Cg : Nat → Nat) (ch : Nat) (O : Nat → Int64), SI pg lg a ko K Cm Dr En Ib Bd Mn q Cg tp T an An → Vw x 7 A D true (cells + 1) (slots + 6) [oHash hx hd hch hb hh ht ha ((an : Nat) : Int), oDisk hd hc hk ko pg lg a.2.1 a.2.2.1 a.2.2.2, aN cI hc 65280 a.1, aN cI hk 255 K, oChange hch hd hj hi, oPage hb hbb, aN cI hbb 256 fb, oPage hh hhb, aN cI hhb 256 fh, oPage hj hjb, aN cI hjb 256 fj, oPage hi hib, aN cI hib 256 fi, oTape ht htb ((tp : Nat) : Int), aN cI htb 48 T, aN cI ha 32 An, oM hm r (th) (pg) (lg) (a.2.1) (a.2.2.1) (a.2.2.2) (a.1 0) (pF (a.1 0)) (tp) (an) (ch), aB cB (r 0) 65536 (Cm), aN cI (r 1) 256 (Dr), aN cI (r 2) 65536 (En), aN cI (r 3) 65536 (Ot), aZ cZ (r 4) 256 (Ib), aN cI (r 5) 256 (Bd), aN cI (r 6) 256 (Mn), aN cI (r 7) 23040 (q).1, aN cI (r 8) 23040 (q).2.1, aL cJ (r 9) 46080 (q).2.2.1, aL cJ (r 10) 92160 (q).2.2.2, aB cB (r 11) 48 (T), aB cB (r 12) 32 (An), aN cI (r 13) 256 (Ou), aN cI (r 14) 256 (Cg), aL cJ ho 1 O] 792 [(0, .ref b), (1, .ref hx), (2, .ref hm), (3, .ref ho), (4, .int (iI ((i : Nat) : Int)))] []) : Vw x 7 A D true cells slots [oHash hx hd hch hb hh ht ha ((an : Nat) : Int), oDisk hd hc hk ko pg lg wt al dn, aN cI hc 65280 C, aN cI hk 255 K, oChange hch hd hj hi, oPage hb hbb, aN cI hbb 256 fb, oPage hh hhb, aN cI hhb 256 fh, oPage hj hjb, aN cI hjb 256 fj, oPage hi hib, aN cI hib 256 fi, oTape ht htb ((tp : Nat) : Int), aN cI htb 48 T, aN cI ha 32 An, oM hm r (th) (pg) (lg) (wt) (al) (dn) (C 0) (pF (C 0)) (tp) (an) (ch), aB cB (r 0) 65536 (Cm), aN cI (r 1) 256 (Dr), aN cI (r 2) 65536 (En), aN cI (r 3) 65536 (Ot), aZ cZ (r 4) 256 (Ib), aN cI (r 5) 256 (Bd), aN cI (r 6) 256 (Mn), aN cI (r 7) 23040 (q).1, aN cI (r 8) 23040 (q).2.1, aL cJ (r 9) 46080 (q).2.2.1, aL cJ (r 10) 92160 (q).2.2.2, aB cB (r 11) 48 (T), aB cB (r 12) 32 (An), aN cI (r 13) 256 (Ou), aN cI (r 14) 256 (Cg), aL cJ ho 1 O] 606 [(0, .ref b), (1, .ref hx), (2, .ref hm), (3, .ref ho), (4, .int (iI ((i : Nat) : Int)))] [] := by
  obtain ⟨hSD, hks, hRI, htp, hT, han, hAn⟩ := id hS
  obtain ⟨hA, hal, hR, hGc⟩ := id hRI
  replace hA : AGP pg Cm C := hA
  replace hal : in32 al := hal
  replace hR : RM C lg Dr En Ib Bd Mn q := hR
  replace hks : KS ko K C pg lg := hks
  have hC : ∀ j, C j < 256 := hSD.bt
  have hdn : dn = 0 ∨ dn = 1 := hSD.dn
  have hda : dn = 0 ∨ (dn = 1 ∧ al = 0) := hSD.da
  have hU : dn = 0 → INV pg lg C := hSD.up
  have hw : DW C pg lg := hSD.ok.1
  have hE : EB C pg lg := hSD.ok.2
  have hDN : DNS C pg lg := hSD.dns
  have w2 := hw.2.1
  have hL9 := hX.2.2.2
  refine v_aload_n (n := 607) k dL_law_606 rfl rfl ?_
  refine v_aload_n (n := 608) k dL_law_607 rfl rfl ?_
  refine v_iload (n := 610) k dL_law_608 rfl rfl ?_
  refine v_iconst (n := 611) k dL_law_610 rfl ?_
  refine v_iadd (n := 612) k dL_law_611 rfl ?_
  refine v_xald (n := 613) k hX (i + 1) (by omega) (by omega) dL_law_612 rfl ?_
  refine v_upV (n := 616) k [0, 1, 2, 3] 0 (z_X4_kind hw (xI_in xs _) hks) miX4_kind ml_L_87 (by decide) (by decide) rfl (by decide) rfl rfl rfl rfl (Nat.le_of_ble_eq_true rfl) (by rw [k.2.2.2.2.2.2.2.2]; exact ⟨by show _ ≤ 601024; omega, by show _ ≤ 7293034; omega⟩) dL_law_613 rfl ?_
  rintro _ _ ⟨rfl, ko2, K2, hks2, rfl⟩
  dsimp only [wput, List.set, Option.toList, List.nil_append, List.cons_append]
  refine v_aload_n (n := 617) k dL_law_616 rfl rfl ?_
  refine v_aload_n (n := 618) k dL_law_617 rfl rfl ?_
  refine v_iload (n := 620) k dL_law_618 rfl rfl ?_
  refine v_iconst (n := 621) k dL_law_620 rfl ?_
  refine v_iadd (n := 622) k dL_law_621 rfl ?_
  refine v_xald (n := 623) k hX (i + 1) (by omega) (by omega) dL_law_622 rfl ?_
  refine v_upV (n := 626) k [16, 21, 18] 16 (z_X5_kind (xI_in xs _) hR.1 hR.2.2.2.2.1 hR.2.2.1 hw) miX5_kind ml_L_90 (by decide) (by decide) rfl (by decide) rfl rfl rfl rfl (Nat.le_of_ble_eq_true rfl) (by rw [k.2.2.2.2.2.2.2.2]; exact ⟨by show _ ≤ 601024; omega, by show _ ≤ 7293034; omega⟩) dL_law_623 rfl ?_
  rintro _ _ ⟨rfl, rfl⟩
  dsimp only [wput, List.set, Option.toList, List.nil_append, List.cons_append]
  refine v_icmpS (t := 792) k (rfl) dL_law_626 (by decide) ?_
  refine v_wide (Nat.le_succ _) (Nat.le_add_right _ 6) ?_
  exact hk9 pg lg (C, wt, al, dn) ko2 K2 fb fh fj fi tp T an An 0 Cm Dr En Ot Ib Bd Mn q Ou Cg ch O ⟨hSD, hks2, hRI, htp, hT, han, hAn⟩
set_option maxHeartbeats 1000000 in
set_option maxRecDepth 20000 in
theorem st_law_10 {D : va_G} {cI cB cJ cZ : ClassId} {x : Kx} {A : Nat → Prop} {cells slots i L b : Nat} {xs : Nat → Int32} {hx hd hc hk hch hb hbb hh hhb ht htb ha hj hi hjb hib : Nat} {hm : Nat} {r : Nat → Nat} {ho : Nat} {pg lg : Nat} {C : Nat → Nat} {wt al dn ko : Int} {K fb fh fj fi : Nat → Nat} {tp : Nat} {T : Nat → Nat} {an : Nat} {An : Nat → Nat} {th : Int} {Cm Dr En Ot : Nat → Nat} {Ib : Nat → Bool} {Bd Mn : Nat → Nat} {q : RQ} {Ou Cg : Nat → Nat} {ch : Nat} {O : Nat → Int64} (k : Kf x cL_law 7 RL (some .boolean) D (TY cI cB cJ cZ) room_1) (kt : Kt A x.2.2.2.2.1 x.2.2.2.2.1.heap) (hst9 : x.2.1.stackTraces = false) (hX : SCR x A b L xs) (hi6 : i + 6 ≤ L) (hcs : cells + 1 ≤ 601024 ∧ slots + 6 ≤ 7293034) (hS : SI pg lg (C, wt, al, dn) ko K Cm Dr En Ib Bd Mn q Cg tp T an An) (hk9 : ∀ (pg lg : Nat) (a : DA) (ko : Int) (K fb fh fj fi : Nat → Nat) (tp : Nat) (T : Nat → Nat) (an : Nat) (An : Nat → Nat) (th : Int) (Cm Dr En Ot : Nat → Nat) (Ib : Nat → Bool) (Bd Mn : Nat → Nat) (q : RQ) (Ou Cg : Nat → Nat) (ch : Nat) (O : Nat → Int64), SI pg lg a ko K Cm Dr En Ib Bd Mn q Cg tp T an An → Vw x 7 A D true (cells + 1) (slots + 6) [oHash hx hd hch hb hh ht ha ((an : Nat) : Int), oDisk hd hc hk ko pg lg a.2.1 a.2.2.1 a.2.2.2, aN cI hc 65280 a.1, aN cI hk 255 K, oChange hch hd hj hi, oPage hb hbb, aN cI hbb 256 fb, oPage hh hhb, aN cI hhb 256 fh, oPage hj hjb, aN cI hjb 256 fj, oPage hi hib, aN cI hib 256 fi, oTape ht htb ((tp : Nat) : Int), aN cI htb 48 T, aN cI ha 32 An, oM hm r (th) (pg) (lg) (a.2.1) (a.2.2.1) (a.2.2.2) (a.1 0) (pF (a.1 0)) (tp) (an) (ch), aB cB (r 0) 65536 (Cm), aN cI (r 1) 256 (Dr), aN cI (r 2) 65536 (En), aN cI (r 3) 65536 (Ot), aZ cZ (r 4) 256 (Ib), aN cI (r 5) 256 (Bd), aN cI (r 6) 256 (Mn), aN cI (r 7) 23040 (q).1, aN cI (r 8) 23040 (q).2.1, aL cJ (r 9) 46080 (q).2.2.1, aL cJ (r 10) 92160 (q).2.2.2, aB cB (r 11) 48 (T), aB cB (r 12) 32 (An), aN cI (r 13) 256 (Ou), aN cI (r 14) 256 (Cg), aL cJ ho 1 O] 792 [(0, .ref b), (1, .ref hx), (2, .ref hm), (3, .ref ho), (4, .int (iI ((i : Nat) : Int)))] []) : Vw x 7 A D true cells slots [oHash hx hd hch hb hh ht ha ((an : Nat) : Int), oDisk hd hc hk ko pg lg wt al dn, aN cI hc 65280 C, aN cI hk 255 K, oChange hch hd hj hi, oPage hb hbb, aN cI hbb 256 fb, oPage hh hhb, aN cI hhb 256 fh, oPage hj hjb, aN cI hjb 256 fj, oPage hi hib, aN cI hib 256 fi, oTape ht htb ((tp : Nat) : Int), aN cI htb 48 T, aN cI ha 32 An, oM hm r (th) (pg) (lg) (wt) (al) (dn) (C 0) (pF (C 0)) (tp) (an) (ch), aB cB (r 0) 65536 (Cm), aN cI (r 1) 256 (Dr), aN cI (r 2) 65536 (En), aN cI (r 3) 65536 (Ot), aZ cZ (r 4) 256 (Ib), aN cI (r 5) 256 (Bd), aN cI (r 6) 256 (Mn), aN cI (r 7) 23040 (q).1, aN cI (r 8) 23040 (q).2.1, aL cJ (r 9) 46080 (q).2.2.1, aL cJ (r 10) 92160 (q).2.2.2, aB cB (r 11) 48 (T), aB cB (r 12) 32 (An), aN cI (r 13) 256 (Ou), aN cI (r 14) 256 (Cg), aL cJ ho 1 O] 631 [(0, .ref b), (1, .ref hx), (2, .ref hm), (3, .ref ho), (4, .int (iI ((i : Nat) : Int)))] [] := by
  obtain ⟨hSD, hks, hRI, htp, hT, han, hAn⟩ := id hS
  obtain ⟨hA, hal, hR, hGc⟩ := id hRI
  replace hA : AGP pg Cm C := hA
  replace hal : in32 al := hal
  replace hR : RM C lg Dr En Ib Bd Mn q := hR
  replace hks : KS ko K C pg lg := hks
  have hC : ∀ j, C j < 256 := hSD.bt
  have hdn : dn = 0 ∨ dn = 1 := hSD.dn
  have hda : dn = 0 ∨ (dn = 1 ∧ al = 0) := hSD.da
  have hU : dn = 0 → INV pg lg C := hSD.up
  have hw : DW C pg lg := hSD.ok.1
  have hE : EB C pg lg := hSD.ok.2
  have hDN : DNS C pg lg := hSD.dns
  have w2 := hw.2.1
  have hL9 := hX.2.2.2
  refine v_aload_n (n := 632) k dL_law_631 rfl rfl ?_
  refine v_rdVi (n := 635) k [0, 13, 14] 0 (z_X4_hash htp) miX4_hash ml_L_91 (by decide) (by decide) rfl (by decide) rfl rfl rfl rfl (Nat.le_of_ble_eq_true rfl) (by rw [k.2.2.2.2.2.2.2.2]; exact ⟨by show _ ≤ 601024; omega, by show _ ≤ 7293034; omega⟩) dL_law_632 rfl ?_
  refine v_aload_n (n := 636) k dL_law_635 rfl rfl ?_
  refine v_upV (n := 639) k [16, 28] 16 (z_X5_hash (C := C) htp hT) miX5_hash ml_L_94 (by decide) (by decide) rfl (by decide) rfl rfl rfl rfl (Nat.le_of_ble_eq_true rfl) (by rw [k.2.2.2.2.2.2.2.2]; exact ⟨by show _ ≤ 601024; omega, by show _ ≤ 7293034; omega⟩) dL_law_636 rfl ?_
  rintro _ _ ⟨rfl, rfl⟩
  dsimp only [wput, List.set, Option.toList, List.nil_append, List.cons_append]
  refine v_icmpS (t := 792) k (rfl) dL_law_639 (by decide) ?_
  refine v_wide (Nat.le_succ _) (Nat.le_add_right _ 6) ?_
  exact hk9 pg lg (C, wt, al, dn) ko K fb fh fj fi tp T an An 0 Cm Dr En Ot Ib Bd Mn q Ou Cg ch O hS
set_option maxHeartbeats 1000000 in
set_option maxRecDepth 20000 in
theorem st_law_11 {D : va_G} {cI cB cJ cZ : ClassId} {x : Kx} {A : Nat → Prop} {cells slots i L b : Nat} {xs : Nat → Int32} {hx hd hc hk hch hb hbb hh hhb ht htb ha hj hi hjb hib : Nat} {hm : Nat} {r : Nat → Nat} {ho : Nat} {pg lg : Nat} {C : Nat → Nat} {wt al dn ko : Int} {K fb fh fj fi : Nat → Nat} {tp : Nat} {T : Nat → Nat} {an : Nat} {An : Nat → Nat} {th : Int} {Cm Dr En Ot : Nat → Nat} {Ib : Nat → Bool} {Bd Mn : Nat → Nat} {q : RQ} {Ou Cg : Nat → Nat} {ch : Nat} {O : Nat → Int64} (k : Kf x cL_law 7 RL (some .boolean) D (TY cI cB cJ cZ) room_1) (kt : Kt A x.2.2.2.2.1 x.2.2.2.2.1.heap) (hst9 : x.2.1.stackTraces = false) (hX : SCR x A b L xs) (hi6 : i + 6 ≤ L) (hcs : cells + 1 ≤ 601024 ∧ slots + 6 ≤ 7293034) (hS : SI pg lg (C, wt, al, dn) ko K Cm Dr En Ib Bd Mn q Cg tp T an An) (hk9 : ∀ (pg lg : Nat) (a : DA) (ko : Int) (K fb fh fj fi : Nat → Nat) (tp : Nat) (T : Nat → Nat) (an : Nat) (An : Nat → Nat) (th : Int) (Cm Dr En Ot : Nat → Nat) (Ib : Nat → Bool) (Bd Mn : Nat → Nat) (q : RQ) (Ou Cg : Nat → Nat) (ch : Nat) (O : Nat → Int64), SI pg lg a ko K Cm Dr En Ib Bd Mn q Cg tp T an An → Vw x 7 A D true (cells + 1) (slots + 6) [oHash hx hd hch hb hh ht ha ((an : Nat) : Int), oDisk hd hc hk ko pg lg a.2.1 a.2.2.1 a.2.2.2, aN cI hc 65280 a.1, aN cI hk 255 K, oChange hch hd hj hi, oPage hb hbb, aN cI hbb 256 fb, oPage hh hhb, aN cI hhb 256 fh, oPage hj hjb, aN cI hjb 256 fj, oPage hi hib, aN cI hib 256 fi, oTape ht htb ((tp : Nat) : Int), aN cI htb 48 T, aN cI ha 32 An, oM hm r (th) (pg) (lg) (a.2.1) (a.2.2.1) (a.2.2.2) (a.1 0) (pF (a.1 0)) (tp) (an) (ch), aB cB (r 0) 65536 (Cm), aN cI (r 1) 256 (Dr), aN cI (r 2) 65536 (En), aN cI (r 3) 65536 (Ot), aZ cZ (r 4) 256 (Ib), aN cI (r 5) 256 (Bd), aN cI (r 6) 256 (Mn), aN cI (r 7) 23040 (q).1, aN cI (r 8) 23040 (q).2.1, aL cJ (r 9) 46080 (q).2.2.1, aL cJ (r 10) 92160 (q).2.2.2, aB cB (r 11) 48 (T), aB cB (r 12) 32 (An), aN cI (r 13) 256 (Ou), aN cI (r 14) 256 (Cg), aL cJ ho 1 O] 792 [(0, .ref b), (1, .ref hx), (2, .ref hm), (3, .ref ho), (4, .int (iI ((i : Nat) : Int)))] []) : Vw x 7 A D true cells slots [oHash hx hd hch hb hh ht ha ((an : Nat) : Int), oDisk hd hc hk ko pg lg wt al dn, aN cI hc 65280 C, aN cI hk 255 K, oChange hch hd hj hi, oPage hb hbb, aN cI hbb 256 fb, oPage hh hhb, aN cI hhb 256 fh, oPage hj hjb, aN cI hjb 256 fj, oPage hi hib, aN cI hib 256 fi, oTape ht htb ((tp : Nat) : Int), aN cI htb 48 T, aN cI ha 32 An, oM hm r (th) (pg) (lg) (wt) (al) (dn) (C 0) (pF (C 0)) (tp) (an) (ch), aB cB (r 0) 65536 (Cm), aN cI (r 1) 256 (Dr), aN cI (r 2) 65536 (En), aN cI (r 3) 65536 (Ot), aZ cZ (r 4) 256 (Ib), aN cI (r 5) 256 (Bd), aN cI (r 6) 256 (Mn), aN cI (r 7) 23040 (q).1, aN cI (r 8) 23040 (q).2.1, aL cJ (r 9) 46080 (q).2.2.1, aL cJ (r 10) 92160 (q).2.2.2, aB cB (r 11) 48 (T), aB cB (r 12) 32 (An), aN cI (r 13) 256 (Ou), aN cI (r 14) 256 (Cg), aL cJ ho 1 O] 644 [(0, .ref b), (1, .ref hx), (2, .ref hm), (3, .ref ho), (4, .int (iI ((i : Nat) : Int)))] [] := by
  obtain ⟨hSD, hks, hRI, htp, hT, han, hAn⟩ := id hS
  obtain ⟨hA, hal, hR, hGc⟩ := id hRI
  replace hA : AGP pg Cm C := hA
  replace hal : in32 al := hal
  replace hR : RM C lg Dr En Ib Bd Mn q := hR
  replace hks : KS ko K C pg lg := hks
  have hC : ∀ j, C j < 256 := hSD.bt
  have hdn : dn = 0 ∨ dn = 1 := hSD.dn
  have hda : dn = 0 ∨ (dn = 1 ∧ al = 0) := hSD.da
  have hU : dn = 0 → INV pg lg C := hSD.up
  have hw : DW C pg lg := hSD.ok.1
  have hE : EB C pg lg := hSD.ok.2
  have hDN : DNS C pg lg := hSD.dns
  have w2 := hw.2.1
  have hL9 := hX.2.2.2
  refine v_aload_n (n := 645) k dL_law_644 rfl rfl ?_
  refine v_aload_n (n := 646) k dL_law_645 rfl rfl ?_
  refine v_iload (n := 648) k dL_law_646 rfl rfl ?_
  refine v_iconst (n := 649) k dL_law_648 rfl ?_
  refine v_iadd (n := 650) k dL_law_649 rfl ?_
  refine v_xald (n := 651) k hX (i + 1) (by omega) (by omega) dL_law_650 rfl ?_
  refine v_rdVi (n := 654) k [0, 1, 2] 0 (z_X4_entry hw (xI_in xs _)) miX4_entry ml_L_95 (by decide) (by decide) rfl (by decide) rfl rfl rfl rfl (Nat.le_of_ble_eq_true rfl) (by rw [k.2.2.2.2.2.2.2.2]; exact ⟨by show _ ≤ 601024; omega, by show _ ≤ 7293034; omega⟩) dL_law_651 rfl ?_
  refine v_aload_n (n := 655) k dL_law_654 rfl rfl ?_
  refine v_aload_n (n := 656) k dL_law_655 rfl rfl ?_
  refine v_iload (n := 658) k dL_law_656 rfl rfl ?_
  refine v_iconst (n := 659) k dL_law_658 rfl ?_
  refine v_iadd (n := 660) k dL_law_659 rfl ?_
  refine v_xald (n := 661) k hX (i + 1) (by omega) (by omega) dL_law_660 rfl ?_
  refine v_upV (n := 664) k [16, 19] 16 (z_X5_entry (C := C) (xI_in xs _) hw.2.2.2.1 hR.2.1) miX5_entry ml_L_98 (by decide) (by decide) rfl (by decide) rfl rfl rfl rfl (Nat.le_of_ble_eq_true rfl) (by rw [k.2.2.2.2.2.2.2.2]; exact ⟨by show _ ≤ 601024; omega, by show _ ≤ 7293034; omega⟩) dL_law_661 rfl ?_
  rintro _ _ ⟨rfl, rfl⟩
  dsimp only [wput, List.set, Option.toList, List.nil_append, List.cons_append]
  refine v_icmpS (t := 792) k (rfl) dL_law_664 (by decide) ?_
  refine v_wide (Nat.le_succ _) (Nat.le_add_right _ 6) ?_
  exact hk9 pg lg (C, wt, al, dn) ko K fb fh fj fi tp T an An 0 Cm Dr En Ot Ib Bd Mn q Ou Cg ch O hS
set_option maxHeartbeats 1000000 in
set_option maxRecDepth 20000 in
theorem st_law_12 {D : va_G} {cI cB cJ cZ : ClassId} {x : Kx} {A : Nat → Prop} {cells slots i L b : Nat} {xs : Nat → Int32} {hx hd hc hk hch hb hbb hh hhb ht htb ha hj hi hjb hib : Nat} {hm : Nat} {r : Nat → Nat} {ho : Nat} {pg lg : Nat} {C : Nat → Nat} {wt al dn ko : Int} {K fb fh fj fi : Nat → Nat} {tp : Nat} {T : Nat → Nat} {an : Nat} {An : Nat → Nat} {th : Int} {Cm Dr En Ot : Nat → Nat} {Ib : Nat → Bool} {Bd Mn : Nat → Nat} {q : RQ} {Ou Cg : Nat → Nat} {ch : Nat} {O : Nat → Int64} (k : Kf x cL_law 7 RL (some .boolean) D (TY cI cB cJ cZ) room_1) (kt : Kt A x.2.2.2.2.1 x.2.2.2.2.1.heap) (hst9 : x.2.1.stackTraces = false) (hX : SCR x A b L xs) (hi6 : i + 6 ≤ L) (hcs : cells + 1 ≤ 601024 ∧ slots + 6 ≤ 7293034) (hS : SI pg lg (C, wt, al, dn) ko K Cm Dr En Ib Bd Mn q Cg tp T an An) (hk9 : ∀ (pg lg : Nat) (a : DA) (ko : Int) (K fb fh fj fi : Nat → Nat) (tp : Nat) (T : Nat → Nat) (an : Nat) (An : Nat → Nat) (th : Int) (Cm Dr En Ot : Nat → Nat) (Ib : Nat → Bool) (Bd Mn : Nat → Nat) (q : RQ) (Ou Cg : Nat → Nat) (ch : Nat) (O : Nat → Int64), SI pg lg a ko K Cm Dr En Ib Bd Mn q Cg tp T an An → Vw x 7 A D true (cells + 1) (slots + 6) [oHash hx hd hch hb hh ht ha ((an : Nat) : Int), oDisk hd hc hk ko pg lg a.2.1 a.2.2.1 a.2.2.2, aN cI hc 65280 a.1, aN cI hk 255 K, oChange hch hd hj hi, oPage hb hbb, aN cI hbb 256 fb, oPage hh hhb, aN cI hhb 256 fh, oPage hj hjb, aN cI hjb 256 fj, oPage hi hib, aN cI hib 256 fi, oTape ht htb ((tp : Nat) : Int), aN cI htb 48 T, aN cI ha 32 An, oM hm r (th) (pg) (lg) (a.2.1) (a.2.2.1) (a.2.2.2) (a.1 0) (pF (a.1 0)) (tp) (an) (ch), aB cB (r 0) 65536 (Cm), aN cI (r 1) 256 (Dr), aN cI (r 2) 65536 (En), aN cI (r 3) 65536 (Ot), aZ cZ (r 4) 256 (Ib), aN cI (r 5) 256 (Bd), aN cI (r 6) 256 (Mn), aN cI (r 7) 23040 (q).1, aN cI (r 8) 23040 (q).2.1, aL cJ (r 9) 46080 (q).2.2.1, aL cJ (r 10) 92160 (q).2.2.2, aB cB (r 11) 48 (T), aB cB (r 12) 32 (An), aN cI (r 13) 256 (Ou), aN cI (r 14) 256 (Cg), aL cJ ho 1 O] 792 [(0, .ref b), (1, .ref hx), (2, .ref hm), (3, .ref ho), (4, .int (iI ((i : Nat) : Int)))] []) : Vw x 7 A D true cells slots [oHash hx hd hch hb hh ht ha ((an : Nat) : Int), oDisk hd hc hk ko pg lg wt al dn, aN cI hc 65280 C, aN cI hk 255 K, oChange hch hd hj hi, oPage hb hbb, aN cI hbb 256 fb, oPage hh hhb, aN cI hhb 256 fh, oPage hj hjb, aN cI hjb 256 fj, oPage hi hib, aN cI hib 256 fi, oTape ht htb ((tp : Nat) : Int), aN cI htb 48 T, aN cI ha 32 An, oM hm r (th) (pg) (lg) (wt) (al) (dn) (C 0) (pF (C 0)) (tp) (an) (ch), aB cB (r 0) 65536 (Cm), aN cI (r 1) 256 (Dr), aN cI (r 2) 65536 (En), aN cI (r 3) 65536 (Ot), aZ cZ (r 4) 256 (Ib), aN cI (r 5) 256 (Bd), aN cI (r 6) 256 (Mn), aN cI (r 7) 23040 (q).1, aN cI (r 8) 23040 (q).2.1, aL cJ (r 9) 46080 (q).2.2.1, aL cJ (r 10) 92160 (q).2.2.2, aB cB (r 11) 48 (T), aB cB (r 12) 32 (An), aN cI (r 13) 256 (Ou), aN cI (r 14) 256 (Cg), aL cJ ho 1 O] 669 [(0, .ref b), (1, .ref hx), (2, .ref hm), (3, .ref ho), (4, .int (iI ((i : Nat) : Int)))] [] := by
  obtain ⟨hSD, hks, hRI, htp, hT, han, hAn⟩ := id hS
  obtain ⟨hA, hal, hR, hGc⟩ := id hRI
  replace hA : AGP pg Cm C := hA
  replace hal : in32 al := hal
  replace hR : RM C lg Dr En Ib Bd Mn q := hR
  replace hks : KS ko K C pg lg := hks
  have hC : ∀ j, C j < 256 := hSD.bt
  have hdn : dn = 0 ∨ dn = 1 := hSD.dn
  have hda : dn = 0 ∨ (dn = 1 ∧ al = 0) := hSD.da
  have hU : dn = 0 → INV pg lg C := hSD.up
  have hw : DW C pg lg := hSD.ok.1
  have hE : EB C pg lg := hSD.ok.2
  have hDN : DNS C pg lg := hSD.dns
  have w2 := hw.2.1
  have hL9 := hX.2.2.2
  refine v_aload_n (n := 670) k dL_law_669 rfl rfl ?_
  refine v_aload_n (n := 671) k dL_law_670 rfl rfl ?_
  refine v_iload (n := 673) k dL_law_671 rfl rfl ?_
  refine v_iconst (n := 674) k dL_law_673 rfl ?_
  refine v_iadd (n := 675) k dL_law_674 rfl ?_
  refine v_xald (n := 676) k hX (i + 1) (by omega) (by omega) dL_law_675 rfl ?_
  refine v_aload_n (n := 677) k dL_law_676 rfl rfl ?_
  refine v_iload (n := 679) k dL_law_677 rfl rfl ?_
  refine v_iconst (n := 680) k dL_law_679 rfl ?_
  refine v_iadd (n := 681) k dL_law_680 rfl ?_
  refine v_xald (n := 682) k hX (i + 2) (by omega) (by omega) dL_law_681 rfl ?_
  refine v_upV (n := 685) k [0, 1, 2, 3] 0 (z_X4_bucket hw (xI_in xs _) (xI_in xs _) hks) miX4_bucket ml_L_99 (by decide) (by decide) rfl (by decide) rfl rfl rfl rfl (Nat.le_of_ble_eq_true rfl) (by rw [k.2.2.2.2.2.2.2.2]; exact ⟨by show _ ≤ 601024; omega, by show _ ≤ 7293034; omega⟩) dL_law_682 rfl ?_
  rintro _ _ ⟨rfl, ko2, K2, hks2, rfl⟩
  dsimp only [wput, List.set, Option.toList, List.nil_append, List.cons_append]
  refine v_aload_n (n := 686) k dL_law_685 rfl rfl ?_
  refine v_aload_n (n := 687) k dL_law_686 rfl rfl ?_
  refine v_iload (n := 689) k dL_law_687 rfl rfl ?_
  refine v_iconst (n := 690) k dL_law_689 rfl ?_
  refine v_iadd (n := 691) k dL_law_690 rfl ?_
  refine v_xald (n := 692) k hX (i + 1) (by omega) (by omega) dL_law_691 rfl ?_
  refine v_aload_n (n := 693) k dL_law_692 rfl rfl ?_
  refine v_iload (n := 695) k dL_law_693 rfl rfl ?_
  refine v_iconst (n := 696) k dL_law_695 rfl ?_
  refine v_iadd (n := 697) k dL_law_696 rfl ?_
  refine v_xald (n := 698) k hX (i + 2) (by omega) (by omega) dL_law_697 rfl ?_
  refine v_upV (n := 701) k [16, 21, 22, 23, 24, 25] 16 (z_X5_bucket_ (xI_in xs _) (xI_in xs _) hR hE hw) miX5_bucket_ ml_L_102 (by decide) (by decide) rfl (by decide) rfl rfl rfl rfl (Nat.le_of_ble_eq_true rfl) (by rw [k.2.2.2.2.2.2.2.2]; exact ⟨by show _ ≤ 601024; omega, by show _ ≤ 7293034; omega⟩) dL_law_698 rfl ?_
  rintro _ _ ⟨rfl, rfl⟩
  dsimp only [wput, List.set, Option.toList, List.nil_append, List.cons_append]
  refine v_icmpS (t := 792) k (rfl) dL_law_701 (by decide) ?_
  refine v_wide (Nat.le_succ _) (Nat.le_add_right _ 6) ?_
  exact hk9 pg lg (C, wt, al, dn) ko2 K2 fb fh fj fi tp T an An 0 Cm Dr En Ot Ib Bd Mn q Ou Cg ch O ⟨hSD, hks2, hRI, htp, hT, han, hAn⟩
set_option maxHeartbeats 1000000 in
set_option maxRecDepth 20000 in
theorem st_law_13 {D : va_G} {cI cB cJ cZ : ClassId} {x : Kx} {A : Nat → Prop} {cells slots i L b : Nat} {xs : Nat → Int32} {hx hd hc hk hch hb hbb hh hhb ht htb ha hj hi hjb hib : Nat} {hm : Nat} {r : Nat → Nat} {ho : Nat} {pg lg : Nat} {C : Nat → Nat} {wt al dn ko : Int} {K fb fh fj fi : Nat → Nat} {tp : Nat} {T : Nat → Nat} {an : Nat} {An : Nat → Nat} {th : Int} {Cm Dr En Ot : Nat → Nat} {Ib : Nat → Bool} {Bd Mn : Nat → Nat} {q : RQ} {Ou Cg : Nat → Nat} {ch : Nat} {O : Nat → Int64} (k : Kf x cL_law 7 RL (some .boolean) D (TY cI cB cJ cZ) room_1) (kt : Kt A x.2.2.2.2.1 x.2.2.2.2.1.heap) (hst9 : x.2.1.stackTraces = false) (hX : SCR x A b L xs) (hi6 : i + 6 ≤ L) (hcs : cells + 1 ≤ 601024 ∧ slots + 6 ≤ 7293034) (hS : SI pg lg (C, wt, al, dn) ko K Cm Dr En Ib Bd Mn q Cg tp T an An) (hk9 : ∀ (pg lg : Nat) (a : DA) (ko : Int) (K fb fh fj fi : Nat → Nat) (tp : Nat) (T : Nat → Nat) (an : Nat) (An : Nat → Nat) (th : Int) (Cm Dr En Ot : Nat → Nat) (Ib : Nat → Bool) (Bd Mn : Nat → Nat) (q : RQ) (Ou Cg : Nat → Nat) (ch : Nat) (O : Nat → Int64), SI pg lg a ko K Cm Dr En Ib Bd Mn q Cg tp T an An → Vw x 7 A D true (cells + 1) (slots + 6) [oHash hx hd hch hb hh ht ha ((an : Nat) : Int), oDisk hd hc hk ko pg lg a.2.1 a.2.2.1 a.2.2.2, aN cI hc 65280 a.1, aN cI hk 255 K, oChange hch hd hj hi, oPage hb hbb, aN cI hbb 256 fb, oPage hh hhb, aN cI hhb 256 fh, oPage hj hjb, aN cI hjb 256 fj, oPage hi hib, aN cI hib 256 fi, oTape ht htb ((tp : Nat) : Int), aN cI htb 48 T, aN cI ha 32 An, oM hm r (th) (pg) (lg) (a.2.1) (a.2.2.1) (a.2.2.2) (a.1 0) (pF (a.1 0)) (tp) (an) (ch), aB cB (r 0) 65536 (Cm), aN cI (r 1) 256 (Dr), aN cI (r 2) 65536 (En), aN cI (r 3) 65536 (Ot), aZ cZ (r 4) 256 (Ib), aN cI (r 5) 256 (Bd), aN cI (r 6) 256 (Mn), aN cI (r 7) 23040 (q).1, aN cI (r 8) 23040 (q).2.1, aL cJ (r 9) 46080 (q).2.2.1, aL cJ (r 10) 92160 (q).2.2.2, aB cB (r 11) 48 (T), aB cB (r 12) 32 (An), aN cI (r 13) 256 (Ou), aN cI (r 14) 256 (Cg), aL cJ ho 1 O] 792 [(0, .ref b), (1, .ref hx), (2, .ref hm), (3, .ref ho), (4, .int (iI ((i : Nat) : Int)))] []) : Vw x 7 A D true cells slots [oHash hx hd hch hb hh ht ha ((an : Nat) : Int), oDisk hd hc hk ko pg lg wt al dn, aN cI hc 65280 C, aN cI hk 255 K, oChange hch hd hj hi, oPage hb hbb, aN cI hbb 256 fb, oPage hh hhb, aN cI hhb 256 fh, oPage hj hjb, aN cI hjb 256 fj, oPage hi hib, aN cI hib 256 fi, oTape ht htb ((tp : Nat) : Int), aN cI htb 48 T, aN cI ha 32 An, oM hm r (th) (pg) (lg) (wt) (al) (dn) (C 0) (pF (C 0)) (tp) (an) (ch), aB cB (r 0) 65536 (Cm), aN cI (r 1) 256 (Dr), aN cI (r 2) 65536 (En), aN cI (r 3) 65536 (Ot), aZ cZ (r 4) 256 (Ib), aN cI (r 5) 256 (Bd), aN cI (r 6) 256 (Mn), aN cI (r 7) 23040 (q).1, aN cI (r 8) 23040 (q).2.1, aL cJ (r 9) 46080 (q).2.2.1, aL cJ (r 10) 92160 (q).2.2.2, aB cB (r 11) 48 (T), aB cB (r 12) 32 (An), aN cI (r 13) 256 (Ou), aN cI (r 14) 256 (Cg), aL cJ ho 1 O] 706 [(0, .ref b), (1, .ref hx), (2, .ref hm), (3, .ref ho), (4, .int (iI ((i : Nat) : Int)))] [] := by
  obtain ⟨hSD, hks, hRI, htp, hT, han, hAn⟩ := id hS
  obtain ⟨hA, hal, hR, hGc⟩ := id hRI
  replace hA : AGP pg Cm C := hA
  replace hal : in32 al := hal
  replace hR : RM C lg Dr En Ib Bd Mn q := hR
  replace hks : KS ko K C pg lg := hks
  have hC : ∀ j, C j < 256 := hSD.bt
  have hdn : dn = 0 ∨ dn = 1 := hSD.dn
  have hda : dn = 0 ∨ (dn = 1 ∧ al = 0) := hSD.da
  have hU : dn = 0 → INV pg lg C := hSD.up
  have hw : DW C pg lg := hSD.ok.1
  have hE : EB C pg lg := hSD.ok.2
  have hDN : DNS C pg lg := hSD.dns
  have w2 := hw.2.1
  have hL9 := hX.2.2.2
  refine v_aload_n (n := 707) k dL_law_706 rfl rfl ?_
  refine v_aload_n (n := 708) k dL_law_707 rfl rfl ?_
  refine v_iload (n := 710) k dL_law_708 rfl rfl ?_
  refine v_iconst (n := 711) k dL_law_710 rfl ?_
  refine v_iadd (n := 712) k dL_law_711 rfl ?_
  refine v_xald (n := 713) k hX (i + 1) (by omega) (by omega) dL_law_712 rfl ?_
  refine v_aload_n (n := 714) k dL_law_713 rfl rfl ?_
  refine v_iload (n := 716) k dL_law_714 rfl rfl ?_
  refine v_iconst (n := 717) k dL_law_716 rfl ?_
  refine v_iadd (n := 718) k dL_law_717 rfl ?_
  refine v_xald (n := 719) k hX (i + 2) (by omega) (by omega) dL_law_718 rfl ?_
  refine v_aload_n (n := 720) k dL_law_719 rfl rfl ?_
  refine v_iload (n := 722) k dL_law_720 rfl rfl ?_
  refine v_iconst (n := 723) k dL_law_722 rfl ?_
  refine v_iadd (n := 724) k dL_law_723 rfl ?_
  refine v_xald (n := 725) k hX (i + 3) (by omega) (by omega) dL_law_724 rfl ?_
  refine v_aload_n (n := 726) k dL_law_725 rfl rfl ?_
  refine v_iload (n := 728) k dL_law_726 rfl rfl ?_
  refine v_iconst (n := 729) k dL_law_728 rfl ?_
  refine v_iadd (n := 730) k dL_law_729 rfl ?_
  refine v_xald (n := 731) k hX (i + 4) (by omega) (by omega) dL_law_730 rfl ?_
  refine v_upV (n := 734) k [0, 1, 2, 3] 0 (z_X4_record hw (xI_in xs _) (xI_in xs _) (xI_in xs _) (xI_in xs _) hSD.b5 hks) miX4_record ml_L_103 (by decide) (by decide) rfl (by decide) rfl rfl rfl rfl (Nat.le_of_ble_eq_true rfl) (by rw [k.2.2.2.2.2.2.2.2]; exact ⟨by show _ ≤ 601024; omega, by show _ ≤ 7293034; omega⟩) dL_law_731 rfl ?_
  rintro _ _ ⟨rfl, ko2, K2, hks2, rfl⟩
  dsimp only [wput, List.set, Option.toList, List.nil_append, List.cons_append]
  refine v_aload_n (n := 735) k dL_law_734 rfl rfl ?_
  refine v_aload_n (n := 736) k dL_law_735 rfl rfl ?_
  refine v_iload (n := 738) k dL_law_736 rfl rfl ?_
  refine v_iconst (n := 739) k dL_law_738 rfl ?_
  refine v_iadd (n := 740) k dL_law_739 rfl ?_
  refine v_xald (n := 741) k hX (i + 1) (by omega) (by omega) dL_law_740 rfl ?_
  refine v_aload_n (n := 742) k dL_law_741 rfl rfl ?_
  refine v_iload (n := 744) k dL_law_742 rfl rfl ?_
  refine v_iconst (n := 745) k dL_law_744 rfl ?_
  refine v_iadd (n := 746) k dL_law_745 rfl ?_
  refine v_xald (n := 747) k hX (i + 2) (by omega) (by omega) dL_law_746 rfl ?_
  refine v_aload_n (n := 748) k dL_law_747 rfl rfl ?_
  refine v_iload (n := 750) k dL_law_748 rfl rfl ?_
  refine v_iconst (n := 751) k dL_law_750 rfl ?_
  refine v_iadd (n := 752) k dL_law_751 rfl ?_
  refine v_xald (n := 753) k hX (i + 3) (by omega) (by omega) dL_law_752 rfl ?_
  refine v_aload_n (n := 754) k dL_law_753 rfl rfl ?_
  refine v_iload (n := 756) k dL_law_754 rfl rfl ?_
  refine v_iconst (n := 757) k dL_law_756 rfl ?_
  refine v_iadd (n := 758) k dL_law_757 rfl ?_
  refine v_xald (n := 759) k hX (i + 4) (by omega) (by omega) dL_law_758 rfl ?_
  refine v_upV (n := 762) k [16, 21, 23, 24, 25, 26, 27] 16 (z_X5_record (xI_in xs _) (xI_in xs _) (xI_in xs _) (xI_in xs _) hR hE hw) miX5_record ml_L_107 (by decide) (by decide) rfl (by decide) rfl rfl rfl rfl (Nat.le_of_ble_eq_true rfl) (by rw [k.2.2.2.2.2.2.2.2]; exact ⟨by show _ ≤ 601024; omega, by show _ ≤ 7293034; omega⟩) dL_law_759 rfl ?_
  rintro _ _ ⟨rfl, rfl⟩
  dsimp only [wput, List.set, Option.toList, List.nil_append, List.cons_append]
  refine v_icmpS (t := 792) k (rfl) dL_law_762 (by decide) ?_
  refine v_wide (Nat.le_succ _) (Nat.le_add_right _ 6) ?_
  exact hk9 pg lg (C, wt, al, dn) ko2 K2 fb fh fj fi tp T an An 0 Cm Dr En Ot Ib Bd Mn q Ou Cg ch O ⟨hSD, hks2, hRI, htp, hT, han, hAn⟩
set_option maxHeartbeats 1000000 in
set_option maxRecDepth 20000 in
theorem st_law_14 {D : va_G} {cI cB cJ cZ : ClassId} {x : Kx} {A : Nat → Prop} {cells slots i L b : Nat} {xs : Nat → Int32} {hx hd hc hk hch hb hbb hh hhb ht htb ha hj hi hjb hib : Nat} {hm : Nat} {r : Nat → Nat} {ho : Nat} {pg lg : Nat} {C : Nat → Nat} {wt al dn ko : Int} {K fb fh fj fi : Nat → Nat} {tp : Nat} {T : Nat → Nat} {an : Nat} {An : Nat → Nat} {th : Int} {Cm Dr En Ot : Nat → Nat} {Ib : Nat → Bool} {Bd Mn : Nat → Nat} {q : RQ} {Ou Cg : Nat → Nat} {ch : Nat} {O : Nat → Int64} (k : Kf x cL_law 7 RL (some .boolean) D (TY cI cB cJ cZ) room_1) (kt : Kt A x.2.2.2.2.1 x.2.2.2.2.1.heap) (hst9 : x.2.1.stackTraces = false) (hX : SCR x A b L xs) (hi6 : i + 6 ≤ L) (hcs : cells + 1 ≤ 601024 ∧ slots + 6 ≤ 7293034) (hS : SI pg lg (C, wt, al, dn) ko K Cm Dr En Ib Bd Mn q Cg tp T an An) (hk9 : ∀ (pg lg : Nat) (a : DA) (ko : Int) (K fb fh fj fi : Nat → Nat) (tp : Nat) (T : Nat → Nat) (an : Nat) (An : Nat → Nat) (th : Int) (Cm Dr En Ot : Nat → Nat) (Ib : Nat → Bool) (Bd Mn : Nat → Nat) (q : RQ) (Ou Cg : Nat → Nat) (ch : Nat) (O : Nat → Int64), SI pg lg a ko K Cm Dr En Ib Bd Mn q Cg tp T an An → Vw x 7 A D true (cells + 1) (slots + 6) [oHash hx hd hch hb hh ht ha ((an : Nat) : Int), oDisk hd hc hk ko pg lg a.2.1 a.2.2.1 a.2.2.2, aN cI hc 65280 a.1, aN cI hk 255 K, oChange hch hd hj hi, oPage hb hbb, aN cI hbb 256 fb, oPage hh hhb, aN cI hhb 256 fh, oPage hj hjb, aN cI hjb 256 fj, oPage hi hib, aN cI hib 256 fi, oTape ht htb ((tp : Nat) : Int), aN cI htb 48 T, aN cI ha 32 An, oM hm r (th) (pg) (lg) (a.2.1) (a.2.2.1) (a.2.2.2) (a.1 0) (pF (a.1 0)) (tp) (an) (ch), aB cB (r 0) 65536 (Cm), aN cI (r 1) 256 (Dr), aN cI (r 2) 65536 (En), aN cI (r 3) 65536 (Ot), aZ cZ (r 4) 256 (Ib), aN cI (r 5) 256 (Bd), aN cI (r 6) 256 (Mn), aN cI (r 7) 23040 (q).1, aN cI (r 8) 23040 (q).2.1, aL cJ (r 9) 46080 (q).2.2.1, aL cJ (r 10) 92160 (q).2.2.2, aB cB (r 11) 48 (T), aB cB (r 12) 32 (An), aN cI (r 13) 256 (Ou), aN cI (r 14) 256 (Cg), aL cJ ho 1 O] 792 [(0, .ref b), (1, .ref hx), (2, .ref hm), (3, .ref ho), (4, .int (iI ((i : Nat) : Int)))] []) : Vw x 7 A D true cells slots [oHash hx hd hch hb hh ht ha ((an : Nat) : Int), oDisk hd hc hk ko pg lg wt al dn, aN cI hc 65280 C, aN cI hk 255 K, oChange hch hd hj hi, oPage hb hbb, aN cI hbb 256 fb, oPage hh hhb, aN cI hhb 256 fh, oPage hj hjb, aN cI hjb 256 fj, oPage hi hib, aN cI hib 256 fi, oTape ht htb ((tp : Nat) : Int), aN cI htb 48 T, aN cI ha 32 An, oM hm r (th) (pg) (lg) (wt) (al) (dn) (C 0) (pF (C 0)) (tp) (an) (ch), aB cB (r 0) 65536 (Cm), aN cI (r 1) 256 (Dr), aN cI (r 2) 65536 (En), aN cI (r 3) 65536 (Ot), aZ cZ (r 4) 256 (Ib), aN cI (r 5) 256 (Bd), aN cI (r 6) 256 (Mn), aN cI (r 7) 23040 (q).1, aN cI (r 8) 23040 (q).2.1, aL cJ (r 9) 46080 (q).2.2.1, aL cJ (r 10) 92160 (q).2.2.2, aB cB (r 11) 48 (T), aB cB (r 12) 32 (An), aN cI (r 13) 256 (Ou), aN cI (r 14) 256 (Cg), aL cJ ho 1 O] 767 [(0, .ref b), (1, .ref hx), (2, .ref hm), (3, .ref ho), (4, .int (iI ((i : Nat) : Int)))] [] := by
  obtain ⟨hSD, hks, hRI, htp, hT, han, hAn⟩ := id hS
  obtain ⟨hA, hal, hR, hGc⟩ := id hRI
  replace hA : AGP pg Cm C := hA
  replace hal : in32 al := hal
  replace hR : RM C lg Dr En Ib Bd Mn q := hR
  replace hks : KS ko K C pg lg := hks
  have hC : ∀ j, C j < 256 := hSD.bt
  have hdn : dn = 0 ∨ dn = 1 := hSD.dn
  have hda : dn = 0 ∨ (dn = 1 ∧ al = 0) := hSD.da
  have hU : dn = 0 → INV pg lg C := hSD.up
  have hw : DW C pg lg := hSD.ok.1
  have hE : EB C pg lg := hSD.ok.2
  have hDN : DNS C pg lg := hSD.dns
  have w2 := hw.2.1
  have hL9 := hX.2.2.2
  refine v_aload_n (n := 768) k dL_law_767 rfl rfl ?_
  refine v_aload_n (n := 769) k dL_law_768 rfl rfl ?_
  refine v_iload (n := 771) k dL_law_769 rfl rfl ?_
  refine v_iconst (n := 772) k dL_law_771 rfl ?_
  refine v_iadd (n := 773) k dL_law_772 rfl ?_
  refine v_xald (n := 774) k hX (i + 1) (by omega) (by omega) dL_law_773 rfl ?_
  refine v_upV (n := 777) k [0, 1, 2, 3, 13] 0 (z_X4_look hw (xI_in xs _) hdn hks) miX4_look ml_L_108 (by decide) (by decide) rfl (by decide) rfl rfl rfl rfl (Nat.le_of_ble_eq_true rfl) (by rw [k.2.2.2.2.2.2.2.2]; exact ⟨by show _ ≤ 601024; omega, by show _ ≤ 7293034; omega⟩) dL_law_774 rfl ?_
  rintro _ _ ⟨rfl, ko2, K2, hks2, rfl⟩
  dsimp only [wput, List.set, Option.toList, List.nil_append, List.cons_append]
  refine v_aload_n (n := 778) k dL_law_777 rfl rfl ?_
  refine v_aload_n (n := 779) k dL_law_778 rfl rfl ?_
  refine v_iload (n := 781) k dL_law_779 rfl rfl ?_
  refine v_iconst (n := 782) k dL_law_781 rfl ?_
  refine v_iadd (n := 783) k dL_law_782 rfl ?_
  refine v_xald (n := 784) k hX (i + 1) (by omega) (by omega) dL_law_783 rfl ?_
  refine v_upV (n := 787) k [16, 17, 21, 18, 23] 16 (z_X5_look (xI_in xs _) hda hA hR hE hw) miX5_look ml_L_111 (by decide) (by decide) rfl (by decide) rfl rfl rfl rfl (Nat.le_of_ble_eq_true rfl) (by rw [k.2.2.2.2.2.2.2.2]; exact ⟨by show _ ≤ 601024; omega, by show _ ≤ 7293034; omega⟩) dL_law_784 rfl ?_
  rintro _ _ ⟨rfl, rfl⟩
  dsimp only [wput, List.set, Option.toList, List.nil_append, List.cons_append]
  refine v_icmpS (t := 792) k (rfl) dL_law_787 (by decide) ?_
  refine v_wide (Nat.le_succ _) (Nat.le_add_right _ 6) ?_
  exact hk9 pg lg (C, wt, al, dn) ko2 K2 fb fh fj fi tp T an An 0 Cm Dr En Ot Ib Bd Mn q Ou Cg ch O ⟨hSD, hks2, hRI, htp, hT, han, hAn⟩
