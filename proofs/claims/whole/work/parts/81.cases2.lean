theorem fd_0 {N : Int} {tp : Nat} (h : fdT N tp = 0) : 1 ≤ N ∧ N ≤ 16 ∧ (tp : Int) + N ≤ 48 := by
  unfold fdT at h
  split at h
  · cases h
  · split at h
    · cases h
    · omega
theorem fd_in {N : Int} {tp : Nat} (h : fdT N tp ≠ 0) : fdT N tp = 1 ∨ fdT N tp = 2 := by
  unfold fdT at h ⊢
  split
  · exact Or.inl rfl
  · split
    · exact Or.inr rfl
    · rename_i h1 h2
      rw [if_neg h1, if_neg h2] at h
      exact absurd rfl h
theorem pu_0 {dn K : Int} {tp : Nat} (h : puT dn K tp = 0) : dn ≠ 1 ∧ 1 ≤ K ∧ K ≤ 16 ∧ K ≤ (tp : Int) ∧ (tp : Int) - K ≤ 32 := by
  unfold puT at h
  split at h
  · cases h
  · split at h
    · cases h
    · omega
theorem pu_in {dn K : Int} {tp : Nat} (h : puT dn K tp ≠ 0) : puT dn K tp = 1 ∨ puT dn K tp = 2 := by
  unfold puT at h ⊢
  split
  · exact Or.inl rfl
  · split
    · exact Or.inr rfl
    · rename_i h1 h2
      rw [if_neg h1, if_neg h2] at h
      exact absurd rfl h
theorem rm_0 {dn : Int} {tp : Nat} (h : rmT dn tp = 0) : dn ≠ 1 := by
  unfold rmT at h
  split at h
  · cases h
  · rename_i h1; exact h1
theorem rm_in {dn : Int} {tp : Nat} (h : rmT dn tp ≠ 0) : rmT dn tp = 1 ∨ rmT dn tp = 2 := by
  unfold rmT at h ⊢
  split
  · exact Or.inl rfl
  · split
    · exact Or.inr rfl
    · rename_i h1 h2
      rw [if_neg h1, if_neg h2] at h
      exact absurd rfl h
theorem tpF_lt {T : Nat → Nat} (hT : ∀ j, T j < 256) (tp : Nat) (A B : Int64) (n : Nat) : ∀ j, tpF T tp A B n j < 256 := by
  intro j
  unfold tpF
  split
  · exact by8_lt _ _
  · exact hT j
theorem gt_le {pg lg : Nat} {C T : Nat → Nat} {tp : Nat} (hI : INV pg lg C) : (gtV C T tp).toNat ≤ 32 := by
  have hh := hsh_lt T 0 tp
  have hx := idx_lt (C := C) hh hI.1.1.1.2.2.2.1
  have p4 := (hI.1.2.1 _ hx).2.2.2.1
  unfold gtV
  split
  · decide
  · cases e : fnd C (entN C (idx C (hsh T 0 tp))) T tp with
    | none => exact (by decide : ((-1 : Int)).toNat ≤ 32)
    | some r => exact (p4.1 r (fnd_k e).1).2.2
theorem gtB_lt {C T : Nat → Nat} {tp : Nat} {An : Nat → Nat} (hC : ∀ j, C j < 256) (hAn : ∀ j, An j < 256) : ∀ j, gtB C T tp An j < 256 := by
  intro j
  unfold gtB
  split
  · exact hAn j
  · cases e : fnd C (entN C (idx C (hsh T 0 tp))) T tp with
    | none => exact hAn j
    | some r => exact lo_lt (fun _ _ => hC _) hAn j
set_option maxHeartbeats 1000000 in
set_option maxRecDepth 20000 in
theorem st_law_0 {D : va_G} {cI cB cJ cZ : ClassId} {x : Kx} {A : Nat → Prop} {cells slots i L b : Nat} {xs : Nat → Int32} {hx hd hc hk hch hb hbb hh hhb ht htb ha hj hi hjb hib : Nat} {hm : Nat} {r : Nat → Nat} {ho : Nat} {pg lg : Nat} {C : Nat → Nat} {wt al dn ko : Int} {K fb fh fj fi : Nat → Nat} {tp : Nat} {T : Nat → Nat} {an : Nat} {An : Nat → Nat} {th : Int} {Cm Dr En Ot : Nat → Nat} {Ib : Nat → Bool} {Bd Mn : Nat → Nat} {q : RQ} {Ou Cg : Nat → Nat} {ch : Nat} {O : Nat → Int64} (k : Kf x cL_law 7 RL (some .boolean) D (TY cI cB cJ cZ) room_1) (kt : Kt A x.2.2.2.2.1 x.2.2.2.2.1.heap) (hst9 : x.2.1.stackTraces = false) (hX : SCR x A b L xs) (hi6 : i + 6 ≤ L) (hcs : cells + 1 ≤ 601024 ∧ slots + 6 ≤ 7293034) (hS : SI pg lg (C, wt, al, dn) ko K Cm Dr En Ib Bd Mn q Cg tp T an An) (hk9 : ∀ (pg lg : Nat) (a : DA) (ko : Int) (K fb fh fj fi : Nat → Nat) (tp : Nat) (T : Nat → Nat) (an : Nat) (An : Nat → Nat) (th : Int) (Cm Dr En Ot : Nat → Nat) (Ib : Nat → Bool) (Bd Mn : Nat → Nat) (q : RQ) (Ou Cg : Nat → Nat) (ch : Nat) (O : Nat → Int64), SI pg lg a ko K Cm Dr En Ib Bd Mn q Cg tp T an An → Vw x 7 A D true (cells + 1) (slots + 6) [oHash hx hd hch hb hh ht ha ((an : Nat) : Int), oDisk hd hc hk ko pg lg a.2.1 a.2.2.1 a.2.2.2, aN cI hc 65280 a.1, aN cI hk 255 K, oChange hch hd hj hi, oPage hb hbb, aN cI hbb 256 fb, oPage hh hhb, aN cI hhb 256 fh, oPage hj hjb, aN cI hjb 256 fj, oPage hi hib, aN cI hib 256 fi, oTape ht htb ((tp : Nat) : Int), aN cI htb 48 T, aN cI ha 32 An, oM hm r (th) (pg) (lg) (a.2.1) (a.2.2.1) (a.2.2.2) (a.1 0) (pF (a.1 0)) (tp) (an) (ch), aB cB (r 0) 65536 (Cm), aN cI (r 1) 256 (Dr), aN cI (r 2) 65536 (En), aN cI (r 3) 65536 (Ot), aZ cZ (r 4) 256 (Ib), aN cI (r 5) 256 (Bd), aN cI (r 6) 256 (Mn), aN cI (r 7) 23040 (q).1, aN cI (r 8) 23040 (q).2.1, aL cJ (r 9) 46080 (q).2.2.1, aL cJ (r 10) 92160 (q).2.2.2, aB cB (r 11) 48 (T), aB cB (r 12) 32 (An), aN cI (r 13) 256 (Ou), aN cI (r 14) 256 (Cg), aL cJ ho 1 O] 792 [(0, .ref b), (1, .ref hx), (2, .ref hm), (3, .ref ho), (4, .int (iI ((i : Nat) : Int)))] []) : Vw x 7 A D true cells slots [oHash hx hd hch hb hh ht ha ((an : Nat) : Int), oDisk hd hc hk ko pg lg wt al dn, aN cI hc 65280 C, aN cI hk 255 K, oChange hch hd hj hi, oPage hb hbb, aN cI hbb 256 fb, oPage hh hhb, aN cI hhb 256 fh, oPage hj hjb, aN cI hjb 256 fj, oPage hi hib, aN cI hib 256 fi, oTape ht htb ((tp : Nat) : Int), aN cI htb 48 T, aN cI ha 32 An, oM hm r (th) (pg) (lg) (wt) (al) (dn) (C 0) (pF (C 0)) (tp) (an) (ch), aB cB (r 0) 65536 (Cm), aN cI (r 1) 256 (Dr), aN cI (r 2) 65536 (En), aN cI (r 3) 65536 (Ot), aZ cZ (r 4) 256 (Ib), aN cI (r 5) 256 (Bd), aN cI (r 6) 256 (Mn), aN cI (r 7) 23040 (q).1, aN cI (r 8) 23040 (q).2.1, aL cJ (r 9) 46080 (q).2.2.1, aL cJ (r 10) 92160 (q).2.2.2, aB cB (r 11) 48 (T), aB cB (r 12) 32 (An), aN cI (r 13) 256 (Ou), aN cI (r 14) 256 (Cg), aL cJ ho 1 O] 116 [(0, .ref b), (1, .ref hx), (2, .ref hm), (3, .ref ho), (4, .int (iI ((i : Nat) : Int)))] [] := by
  obtain ⟨hSD, hks, hRI, htp, hT, han, hAn⟩ := id hS
  obtain ⟨hA, hal, hR, hGc⟩ := id hRI
  replace hA : AGP pg Cm C := hA
  replace hal : in32 al := hal
  replace hR : RM C lg Dr En Ib Bd Mn q := hR
  replace hks : KS ko K C pg lg := hks
  have hC : ∀ j, C j < 256 := hSD.bt
  have hdn : dn = 0 ∨ dn = 1 := hSD.dn
  have hda : dn = 0 ∨ (dn = 1 ∧ al = 0) := hSD.da
  have hU : dn = 0 → INV pg lg C := hSD.up
  have hw : DW C pg lg := hSD.ok.1
  have hE : EB C pg lg := hSD.ok.2
  have hDN : DNS C pg lg := hSD.dns
  have w2 := hw.2.1
  have hL9 := hX.2.2.2
  refine v_aload_n (n := 117) k dL_law_116 rfl rfl ?_
  refine v_aload_n (n := 118) k dL_law_117 rfl rfl ?_
  refine v_iload (n := 120) k dL_law_118 rfl rfl ?_
  refine v_iconst (n := 121) k dL_law_120 rfl ?_
  refine v_iadd (n := 122) k dL_law_121 rfl ?_
  refine v_xald (n := 123) k hX (i + 1) (by omega) (by omega) dL_law_122 rfl ?_
  refine v_aload_n (n := 124) k dL_law_123 rfl rfl ?_
  refine v_iload (n := 126) k dL_law_124 rfl rfl ?_
  refine v_iconst (n := 127) k dL_law_126 rfl ?_
  refine v_iadd (n := 128) k dL_law_127 rfl ?_
  refine v_xald (n := 129) k hX (i + 2) (by omega) (by omega) dL_law_128 rfl ?_
  refine v_callL (n := 132) k kt hst9 [0, 1, 2, 3, 4, 5, 6, 7, 8, 9, 10, 11, 12, 13, 14, 15] (z_L_format (xI_in xs _) (xI_in xs _)) mw_format ml_L_45 (by decide) (by decide) rfl (by decide) rfl rfl (Nat.le_of_ble_eq_true rfl) ⟨by show _ ≤ 601024; omega, by show _ ≤ 7293034; omega⟩ dL_law_129 rfl ?_
  rintro v w1 (⟨rfl, hok, rfl⟩ | ⟨rfl, hno, rfl⟩)
  · dsimp only [wput, List.set, Option.toList, List.nil_append, List.cons_append]
    refine v_istore (n := 134) k dL_law_132 rfl (by decide) rfl rfl ?_
    refine v_aload_n (n := 135) k dL_law_134 rfl rfl ?_
    refine v_aload_n (n := 136) k dL_law_135 rfl rfl ?_
    refine v_iload (n := 138) k dL_law_136 rfl rfl ?_
    refine v_iconst (n := 139) k dL_law_138 rfl ?_
    refine v_iadd (n := 140) k dL_law_139 rfl ?_
    refine v_xald (n := 141) k hX (i + 1) (by omega) (by omega) dL_law_140 rfl ?_
    refine v_aload_n (n := 142) k dL_law_141 rfl rfl ?_
    refine v_iload (n := 144) k dL_law_142 rfl rfl ?_
    refine v_iconst (n := 145) k dL_law_144 rfl ?_
    refine v_iadd (n := 146) k dL_law_145 rfl ?_
    refine v_xald (n := 147) k hX (i + 2) (by omega) (by omega) dL_law_146 rfl ?_
    refine v_upV (n := 150) k [16, 17, 18, 19, 21, 22, 23, 24, 25, 26, 27] 16 (z_X5_format (C := C) (xI_in xs _) (xI_in xs _) hC hR.2.2.2.2) miX5_format ml_L_50 (by decide) (by decide) rfl (by decide) rfl rfl rfl rfl (Nat.le_of_ble_eq_true rfl) (by rw [k.2.2.2.2.2.2.2.2]; exact ⟨by show _ ≤ 601024; omega, by show _ ≤ 7293034; omega⟩) dL_law_147 rfl ?_
    rintro _ _ ⟨rfl, h9⟩
    obtain ⟨Cm9, Dr9, En9, Ib9, Bd9, Mn9, q9, hA9, hRM9, rfl⟩ := (h9.resolve_left (fun z => z.1 hok)).2
    dsimp only [wput, List.set, Option.toList, List.nil_append, List.cons_append]
    refine v_aload_n (n := 151) k dL_law_150 rfl rfl ?_
    refine v_rdVi (n := 154) k [16] 16 (z_X5_thrown) miX5_thrown ml_L_51 (by decide) (by decide) rfl (by decide) rfl rfl rfl rfl (Nat.le_of_ble_eq_true rfl) (by rw [k.2.2.2.2.2.2.2.2]; exact ⟨by show _ ≤ 601024; omega, by show _ ≤ 7293034; omega⟩) dL_law_151 rfl ?_
    refine v_iload (n := 156) k dL_law_154 rfl rfl ?_
    refine v_icmpS (t := 161) k (rfl) dL_law_156 (by decide) ?_
    refine v_goto (t := 792) k dL_law_161 (by decide) ?_
    refine v_lvf [(0, .ref b), (1, .ref hx), (2, .ref hm), (3, .ref ho), (4, .int (iI ((i : Nat) : Int)))] ⟨rfl, rfl, rfl, rfl, rfl, trivial⟩ ?_
    unfold fmOk at hok
    have hf := fm_full (C := C) (n := (xI xs (i + 1)).toNat) (g := (xI xs (i + 2)).toNat) (by omega) (by omega) (by omega) (by omega) (by omega) hC
    exact hk9 (xI xs (i + 1)).toNat (xI xs (i + 2)).toNat ((fmC C (xI xs (i + 1)).toNat (xI xs (i + 2)).toNat), 0, -1, 0) 1 K (fun _ => 0) fh fj fi tp T 0 An 0 Cm9 Dr9 En9 Ot Ib9 Bd9 Mn9 q9 Ou Cg ch O ⟨Or.inl ⟨hf.1.1.1.2.2.1, rfl, hf.2, hf.1⟩, ⟨hks.1, Or.inl rfl⟩, ⟨hA9, (⟨by decide, by decide⟩ : in32 (-1)), hRM9, hGc⟩, htp, hT, by decide, hAn⟩
  · dsimp only [wput, List.set, Option.toList, List.nil_append, List.cons_append]
    refine v_istore (n := 134) k dL_law_132 rfl (by decide) rfl rfl ?_
    refine v_aload_n (n := 135) k dL_law_134 rfl rfl ?_
    refine v_aload_n (n := 136) k dL_law_135 rfl rfl ?_
    refine v_iload (n := 138) k dL_law_136 rfl rfl ?_
    refine v_iconst (n := 139) k dL_law_138 rfl ?_
    refine v_iadd (n := 140) k dL_law_139 rfl ?_
    refine v_xald (n := 141) k hX (i + 1) (by omega) (by omega) dL_law_140 rfl ?_
    refine v_aload_n (n := 142) k dL_law_141 rfl rfl ?_
    refine v_iload (n := 144) k dL_law_142 rfl rfl ?_
    refine v_iconst (n := 145) k dL_law_144 rfl ?_
    refine v_iadd (n := 146) k dL_law_145 rfl ?_
    refine v_xald (n := 147) k hX (i + 2) (by omega) (by omega) dL_law_146 rfl ?_
    refine v_upV (n := 150) k [16, 17, 18, 19, 21, 22, 23, 24, 25, 26, 27] 16 (z_X5_format (C := C) (xI_in xs _) (xI_in xs _) hC hR.2.2.2.2) miX5_format ml_L_50 (by decide) (by decide) rfl (by decide) rfl rfl rfl rfl (Nat.le_of_ble_eq_true rfl) (by rw [k.2.2.2.2.2.2.2.2]; exact ⟨by show _ ≤ 601024; omega, by show _ ≤ 7293034; omega⟩) dL_law_147 rfl ?_
    rintro _ _ ⟨rfl, h9⟩
    obtain ⟨-, rfl⟩ := h9.resolve_right (fun z => hno z.1)
    dsimp only [wput, List.set, Option.toList, List.nil_append, List.cons_append]
    refine v_aload_n (n := 151) k dL_law_150 rfl rfl ?_
    refine v_rdVi (n := 154) k [16] 16 (z_X5_thrown) miX5_thrown ml_L_51 (by decide) (by decide) rfl (by decide) rfl rfl rfl rfl (Nat.le_of_ble_eq_true rfl) (by rw [k.2.2.2.2.2.2.2.2]; exact ⟨by show _ ≤ 601024; omega, by show _ ≤ 7293034; omega⟩) dL_law_151 rfl ?_
    refine v_iload (n := 156) k dL_law_154 rfl rfl ?_
    refine v_icmpS (t := 161) k (rfl) dL_law_156 (by decide) ?_
    refine v_goto (t := 792) k dL_law_161 (by decide) ?_
    refine v_lvf [(0, .ref b), (1, .ref hx), (2, .ref hm), (3, .ref ho), (4, .int (iI ((i : Nat) : Int)))] ⟨rfl, rfl, rfl, rfl, rfl, trivial⟩ ?_
    exact hk9 pg lg (C, wt, al, dn) ko K fb fh fj fi tp T an An 1 Cm Dr En Ot Ib Bd Mn q Ou Cg ch O hS
set_option maxHeartbeats 1000000 in
set_option maxRecDepth 20000 in
theorem st_law_1 {D : va_G} {cI cB cJ cZ : ClassId} {x : Kx} {A : Nat → Prop} {cells slots i L b : Nat} {xs : Nat → Int32} {hx hd hc hk hch hb hbb hh hhb ht htb ha hj hi hjb hib : Nat} {hm : Nat} {r : Nat → Nat} {ho : Nat} {pg lg : Nat} {C : Nat → Nat} {wt al dn ko : Int} {K fb fh fj fi : Nat → Nat} {tp : Nat} {T : Nat → Nat} {an : Nat} {An : Nat → Nat} {th : Int} {Cm Dr En Ot : Nat → Nat} {Ib : Nat → Bool} {Bd Mn : Nat → Nat} {q : RQ} {Ou Cg : Nat → Nat} {ch : Nat} {O : Nat → Int64} (k : Kf x cL_law 7 RL (some .boolean) D (TY cI cB cJ cZ) room_1) (kt : Kt A x.2.2.2.2.1 x.2.2.2.2.1.heap) (hst9 : x.2.1.stackTraces = false) (hX : SCR x A b L xs) (hi6 : i + 6 ≤ L) (hcs : cells + 1 ≤ 601024 ∧ slots + 6 ≤ 7293034) (hS : SI pg lg (C, wt, al, dn) ko K Cm Dr En Ib Bd Mn q Cg tp T an An) (hk9 : ∀ (pg lg : Nat) (a : DA) (ko : Int) (K fb fh fj fi : Nat → Nat) (tp : Nat) (T : Nat → Nat) (an : Nat) (An : Nat → Nat) (th : Int) (Cm Dr En Ot : Nat → Nat) (Ib : Nat → Bool) (Bd Mn : Nat → Nat) (q : RQ) (Ou Cg : Nat → Nat) (ch : Nat) (O : Nat → Int64), SI pg lg a ko K Cm Dr En Ib Bd Mn q Cg tp T an An → Vw x 7 A D true (cells + 1) (slots + 6) [oHash hx hd hch hb hh ht ha ((an : Nat) : Int), oDisk hd hc hk ko pg lg a.2.1 a.2.2.1 a.2.2.2, aN cI hc 65280 a.1, aN cI hk 255 K, oChange hch hd hj hi, oPage hb hbb, aN cI hbb 256 fb, oPage hh hhb, aN cI hhb 256 fh, oPage hj hjb, aN cI hjb 256 fj, oPage hi hib, aN cI hib 256 fi, oTape ht htb ((tp : Nat) : Int), aN cI htb 48 T, aN cI ha 32 An, oM hm r (th) (pg) (lg) (a.2.1) (a.2.2.1) (a.2.2.2) (a.1 0) (pF (a.1 0)) (tp) (an) (ch), aB cB (r 0) 65536 (Cm), aN cI (r 1) 256 (Dr), aN cI (r 2) 65536 (En), aN cI (r 3) 65536 (Ot), aZ cZ (r 4) 256 (Ib), aN cI (r 5) 256 (Bd), aN cI (r 6) 256 (Mn), aN cI (r 7) 23040 (q).1, aN cI (r 8) 23040 (q).2.1, aL cJ (r 9) 46080 (q).2.2.1, aL cJ (r 10) 92160 (q).2.2.2, aB cB (r 11) 48 (T), aB cB (r 12) 32 (An), aN cI (r 13) 256 (Ou), aN cI (r 14) 256 (Cg), aL cJ ho 1 O] 792 [(0, .ref b), (1, .ref hx), (2, .ref hm), (3, .ref ho), (4, .int (iI ((i : Nat) : Int)))] []) : Vw x 7 A D true cells slots [oHash hx hd hch hb hh ht ha ((an : Nat) : Int), oDisk hd hc hk ko pg lg wt al dn, aN cI hc 65280 C, aN cI hk 255 K, oChange hch hd hj hi, oPage hb hbb, aN cI hbb 256 fb, oPage hh hhb, aN cI hhb 256 fh, oPage hj hjb, aN cI hjb 256 fj, oPage hi hib, aN cI hib 256 fi, oTape ht htb ((tp : Nat) : Int), aN cI htb 48 T, aN cI ha 32 An, oM hm r (th) (pg) (lg) (wt) (al) (dn) (C 0) (pF (C 0)) (tp) (an) (ch), aB cB (r 0) 65536 (Cm), aN cI (r 1) 256 (Dr), aN cI (r 2) 65536 (En), aN cI (r 3) 65536 (Ot), aZ cZ (r 4) 256 (Ib), aN cI (r 5) 256 (Bd), aN cI (r 6) 256 (Mn), aN cI (r 7) 23040 (q).1, aN cI (r 8) 23040 (q).2.1, aL cJ (r 9) 46080 (q).2.2.1, aL cJ (r 10) 92160 (q).2.2.2, aB cB (r 11) 48 (T), aB cB (r 12) 32 (An), aN cI (r 13) 256 (Ou), aN cI (r 14) 256 (Cg), aL cJ ho 1 O] 164 [(0, .ref b), (1, .ref hx), (2, .ref hm), (3, .ref ho), (4, .int (iI ((i : Nat) : Int)))] [] := by
  obtain ⟨hSD, hks, hRI, htp, hT, han, hAn⟩ := id hS
  obtain ⟨hA, hal, hR, hGc⟩ := id hRI
  replace hA : AGP pg Cm C := hA
  replace hal : in32 al := hal
  replace hR : RM C lg Dr En Ib Bd Mn q := hR
  replace hks : KS ko K C pg lg := hks
  have hC : ∀ j, C j < 256 := hSD.bt
  have hdn : dn = 0 ∨ dn = 1 := hSD.dn
  have hda : dn = 0 ∨ (dn = 1 ∧ al = 0) := hSD.da
  have hU : dn = 0 → INV pg lg C := hSD.up
  have hw : DW C pg lg := hSD.ok.1
  have hE : EB C pg lg := hSD.ok.2
  have hDN : DNS C pg lg := hSD.dns
  have w2 := hw.2.1
  have hL9 := hX.2.2.2
  refine v_aload_n (n := 165) k dL_law_164 rfl rfl ?_
  refine v_aload_n (n := 166) k dL_law_165 rfl rfl ?_
  refine v_iload (n := 168) k dL_law_166 rfl rfl ?_
  refine v_iconst (n := 169) k dL_law_168 rfl ?_
  refine v_iadd (n := 170) k dL_law_169 rfl ?_
  refine v_xald (n := 171) k hX (i + 1) (by omega) (by omega) dL_law_170 rfl ?_
  refine v_aload_n (n := 172) k dL_law_171 rfl rfl ?_
  refine v_iload (n := 174) k dL_law_172 rfl rfl ?_
  refine v_iconst (n := 175) k dL_law_174 rfl ?_
  refine v_iadd (n := 176) k dL_law_175 rfl ?_
  refine v_xald (n := 177) k hX (i + 2) (by omega) (by omega) dL_law_176 rfl ?_
  refine v_i2l (n := 178) k dL_law_177 rfl ?_
  refine v_bipush (n := 180) k dL_law_178 (by decide) rfl ?_
  refine v_lshl (n := 181) k dL_law_180 rfl ?_
  refine v_aload_n (n := 182) k dL_law_181 rfl rfl ?_
  refine v_iload (n := 184) k dL_law_182 rfl rfl ?_
  refine v_iconst (n := 185) k dL_law_184 rfl ?_
  refine v_iadd (n := 186) k dL_law_185 rfl ?_
  refine v_xald (n := 187) k hX (i + 3) (by omega) (by omega) dL_law_186 rfl ?_
  refine v_i2l (n := 188) k dL_law_187 rfl ?_
  refine v_ldc2 (n := 191) k cq_L_54 dL_law_188 rfl ?_
  refine v_land (n := 192) k dL_law_191 rfl ?_
  refine v_lor (n := 193) k dL_law_192 rfl ?_
  refine v_aload_n (n := 194) k dL_law_193 rfl rfl ?_
  refine v_iload (n := 196) k dL_law_194 rfl rfl ?_
  refine v_iconst (n := 197) k dL_law_196 rfl ?_
  refine v_iadd (n := 198) k dL_law_197 rfl ?_
  refine v_xald (n := 199) k hX (i + 4) (by omega) (by omega) dL_law_198 rfl ?_
  refine v_i2l (n := 200) k dL_law_199 rfl ?_
  refine v_bipush (n := 202) k dL_law_200 (by decide) rfl ?_
  refine v_lshl (n := 203) k dL_law_202 rfl ?_
  refine v_aload_n (n := 204) k dL_law_203 rfl rfl ?_
  refine v_iload (n := 206) k dL_law_204 rfl rfl ?_
  refine v_iconst (n := 207) k dL_law_206 rfl ?_
  refine v_iadd (n := 208) k dL_law_207 rfl ?_
  refine v_xald (n := 209) k hX (i + 5) (by omega) (by omega) dL_law_208 rfl ?_
  refine v_i2l (n := 210) k dL_law_209 rfl ?_
  refine v_ldc2 (n := 213) k cq_L_54 dL_law_210 rfl ?_
  refine v_land (n := 214) k dL_law_213 rfl ?_
  refine v_lor (n := 215) k dL_law_214 rfl ?_
  refine v_aload_n (n := 216) k dL_law_215 rfl rfl ?_
  refine v_callL (n := 219) k kt hst9 [0, 1, 2, 3, 4, 5, 6, 7, 8, 9, 10, 11, 12, 13, 14, 15, 32] (z_L_feed (xI_in xs _) htp) mw_feed ml_L_56 (by decide) (by decide) rfl (by decide) rfl rfl (Nat.le_of_ble_eq_true rfl) ⟨by show _ ≤ 601024; omega, by show _ ≤ 7293034; omega⟩ dL_law_216 rfl ?_
  rintro v w1 (⟨rfl, ht9, rfl⟩ | ⟨rfl, ht9, rfl⟩)
  · dsimp only [wput, List.set, Option.toList, List.nil_append, List.cons_append]
    refine v_istore (n := 221) k dL_law_219 rfl (by decide) rfl rfl ?_
    refine v_aload_n (n := 222) k dL_law_221 rfl rfl ?_
    refine v_aload_n (n := 223) k dL_law_222 rfl rfl ?_
    refine v_iload (n := 225) k dL_law_223 rfl rfl ?_
    refine v_iconst (n := 226) k dL_law_225 rfl ?_
    refine v_iadd (n := 227) k dL_law_226 rfl ?_
    refine v_xald (n := 228) k hX (i + 1) (by omega) (by omega) dL_law_227 rfl ?_
    refine v_aload_n (n := 229) k dL_law_228 rfl rfl ?_
    refine v_iload (n := 231) k dL_law_229 rfl rfl ?_
    refine v_iconst (n := 232) k dL_law_231 rfl ?_
    refine v_iadd (n := 233) k dL_law_232 rfl ?_
    refine v_xald (n := 234) k hX (i + 2) (by omega) (by omega) dL_law_233 rfl ?_
    refine v_i2l (n := 235) k dL_law_234 rfl ?_
    refine v_bipush (n := 237) k dL_law_235 (by decide) rfl ?_
    refine v_lshl (n := 238) k dL_law_237 rfl ?_
    refine v_aload_n (n := 239) k dL_law_238 rfl rfl ?_
    refine v_iload (n := 241) k dL_law_239 rfl rfl ?_
    refine v_iconst (n := 242) k dL_law_241 rfl ?_
    refine v_iadd (n := 243) k dL_law_242 rfl ?_
    refine v_xald (n := 244) k hX (i + 3) (by omega) (by omega) dL_law_243 rfl ?_
    refine v_i2l (n := 245) k dL_law_244 rfl ?_
    refine v_ldc2 (n := 248) k cq_L_54 dL_law_245 rfl ?_
    refine v_land (n := 249) k dL_law_248 rfl ?_
    refine v_lor (n := 250) k dL_law_249 rfl ?_
    refine v_aload_n (n := 251) k dL_law_250 rfl rfl ?_
    refine v_iload (n := 253) k dL_law_251 rfl rfl ?_
    refine v_iconst (n := 254) k dL_law_253 rfl ?_
    refine v_iadd (n := 255) k dL_law_254 rfl ?_
    refine v_xald (n := 256) k hX (i + 4) (by omega) (by omega) dL_law_255 rfl ?_
    refine v_i2l (n := 257) k dL_law_256 rfl ?_
    refine v_bipush (n := 259) k dL_law_257 (by decide) rfl ?_
    refine v_lshl (n := 260) k dL_law_259 rfl ?_
    refine v_aload_n (n := 261) k dL_law_260 rfl rfl ?_
    refine v_iload (n := 263) k dL_law_261 rfl rfl ?_
    refine v_iconst (n := 264) k dL_law_263 rfl ?_
    refine v_iadd (n := 265) k dL_law_264 rfl ?_
    refine v_xald (n := 266) k hX (i + 5) (by omega) (by omega) dL_law_265 rfl ?_
    refine v_i2l (n := 267) k dL_law_266 rfl ?_
    refine v_ldc2 (n := 270) k cq_L_54 dL_law_267 rfl ?_
    refine v_land (n := 271) k dL_law_270 rfl ?_
    refine v_lor (n := 272) k dL_law_271 rfl ?_
    refine v_upV (n := 275) k [16, 28] 16 (z_X5_feed (xI_in xs _) htp) miX5_feed ml_L_59 (by decide) (by decide) rfl (by decide) rfl rfl rfl rfl (Nat.le_of_ble_eq_true rfl) (by rw [k.2.2.2.2.2.2.2.2]; exact ⟨by show _ ≤ 601024; omega, by show _ ≤ 7293034; omega⟩) dL_law_272 rfl ?_
    rintro _ _ h9
    obtain ⟨-, rfl, rfl⟩ := h9.resolve_left (fun z => z.1 ht9)
    dsimp only [wput, List.set, Option.toList, List.nil_append, List.cons_append]
    refine v_istore (n := 277) k dL_law_275 rfl (by decide) rfl rfl ?_
    refine v_aload_n (n := 278) k dL_law_277 rfl rfl ?_
    refine v_rdVi (n := 281) k [16] 16 (z_X5_thrown) miX5_thrown ml_L_51 (by decide) (by decide) rfl (by decide) rfl rfl rfl rfl (Nat.le_of_ble_eq_true rfl) (by rw [k.2.2.2.2.2.2.2.2]; exact ⟨by show _ ≤ 601024; omega, by show _ ≤ 7293034; omega⟩) dL_law_278 rfl ?_
    refine v_iload (n := 283) k dL_law_281 rfl rfl ?_
    refine v_icmpS (t := 288) k (rfl) dL_law_283 (by decide) ?_
    refine v_iload (n := 290) k dL_law_288 rfl rfl ?_
    refine v_if_ne (n := 293) (t := 305) k (⟨by omega, by omega⟩) dL_law_290 (by decide) rfl (fun c_290 => ?_) (fun c_290 => ?_)
    · exfalso; omega
    · refine v_aload_n (n := 294) k dL_law_293 rfl rfl ?_
      refine v_iconst (n := 295) k dL_law_294 rfl ?_
      refine v_laldN (n := 296) k 32 2 (0) rfl rfl (by omega) (by omega) (by omega) dL_law_295 rfl ?_
      refine v_iload (n := 298) k dL_law_296 rfl rfl ?_
      refine v_i2l (n := 299) k dL_law_298 rfl ?_
      refine v_lcmpE (n := 300) k (rfl) dL_law_299 rfl ?_
      refine v_if_eq (n := 303) (t := 305) k (⟨by omega, by omega⟩) dL_law_300 (by decide) rfl (fun c_300 => ?_) (fun c_300 => ?_)
      · refine v_goto (t := 792) k dL_law_305 (by decide) ?_
        refine v_lvf [(0, .ref b), (1, .ref hx), (2, .ref hm), (3, .ref ho), (4, .int (iI ((i : Nat) : Int)))] ⟨rfl, rfl, rfl, rfl, rfl, trivial⟩ ?_
        have hf9 := fd_0 ht9
        exact hk9 pg lg (C, wt, al, dn) ko K fb fh fj fi (tp + (xI xs (i + 1)).toNat) (tpF T tp _ _ (xI xs (i + 1)).toNat) an An 0 Cm Dr En Ot Ib Bd Mn q Ou Cg ch _ ⟨hSD, hks, hRI, by omega, tpF_lt hT _ _ _ _, han, hAn⟩
      · exfalso; omega
  · dsimp only [wput, List.set, Option.toList, List.nil_append, List.cons_append]
    refine v_istore (n := 221) k dL_law_219 rfl (by decide) rfl rfl ?_
    refine v_aload_n (n := 222) k dL_law_221 rfl rfl ?_
    refine v_aload_n (n := 223) k dL_law_222 rfl rfl ?_
    refine v_iload (n := 225) k dL_law_223 rfl rfl ?_
    refine v_iconst (n := 226) k dL_law_225 rfl ?_
    refine v_iadd (n := 227) k dL_law_226 rfl ?_
    refine v_xald (n := 228) k hX (i + 1) (by omega) (by omega) dL_law_227 rfl ?_
    refine v_aload_n (n := 229) k dL_law_228 rfl rfl ?_
    refine v_iload (n := 231) k dL_law_229 rfl rfl ?_
    refine v_iconst (n := 232) k dL_law_231 rfl ?_
    refine v_iadd (n := 233) k dL_law_232 rfl ?_
    refine v_xald (n := 234) k hX (i + 2) (by omega) (by omega) dL_law_233 rfl ?_
    refine v_i2l (n := 235) k dL_law_234 rfl ?_
    refine v_bipush (n := 237) k dL_law_235 (by decide) rfl ?_
    refine v_lshl (n := 238) k dL_law_237 rfl ?_
    refine v_aload_n (n := 239) k dL_law_238 rfl rfl ?_
    refine v_iload (n := 241) k dL_law_239 rfl rfl ?_
    refine v_iconst (n := 242) k dL_law_241 rfl ?_
    refine v_iadd (n := 243) k dL_law_242 rfl ?_
    refine v_xald (n := 244) k hX (i + 3) (by omega) (by omega) dL_law_243 rfl ?_
    refine v_i2l (n := 245) k dL_law_244 rfl ?_
    refine v_ldc2 (n := 248) k cq_L_54 dL_law_245 rfl ?_
    refine v_land (n := 249) k dL_law_248 rfl ?_
    refine v_lor (n := 250) k dL_law_249 rfl ?_
    refine v_aload_n (n := 251) k dL_law_250 rfl rfl ?_
    refine v_iload (n := 253) k dL_law_251 rfl rfl ?_
    refine v_iconst (n := 254) k dL_law_253 rfl ?_
    refine v_iadd (n := 255) k dL_law_254 rfl ?_
    refine v_xald (n := 256) k hX (i + 4) (by omega) (by omega) dL_law_255 rfl ?_
    refine v_i2l (n := 257) k dL_law_256 rfl ?_
    refine v_bipush (n := 259) k dL_law_257 (by decide) rfl ?_
    refine v_lshl (n := 260) k dL_law_259 rfl ?_
    refine v_aload_n (n := 261) k dL_law_260 rfl rfl ?_
    refine v_iload (n := 263) k dL_law_261 rfl rfl ?_
    refine v_iconst (n := 264) k dL_law_263 rfl ?_
    refine v_iadd (n := 265) k dL_law_264 rfl ?_
    refine v_xald (n := 266) k hX (i + 5) (by omega) (by omega) dL_law_265 rfl ?_
    refine v_i2l (n := 267) k dL_law_266 rfl ?_
    refine v_ldc2 (n := 270) k cq_L_54 dL_law_267 rfl ?_
    refine v_land (n := 271) k dL_law_270 rfl ?_
    refine v_lor (n := 272) k dL_law_271 rfl ?_
    refine v_upV (n := 275) k [16, 28] 16 (z_X5_feed (xI_in xs _) htp) miX5_feed ml_L_59 (by decide) (by decide) rfl (by decide) rfl rfl rfl rfl (Nat.le_of_ble_eq_true rfl) (by rw [k.2.2.2.2.2.2.2.2]; exact ⟨by show _ ≤ 601024; omega, by show _ ≤ 7293034; omega⟩) dL_law_272 rfl ?_
    rintro _ _ h9
    obtain ⟨-, rfl, rfl⟩ := h9.resolve_right (fun z => ht9 z.1)
    have hb9 := fd_in ht9
    dsimp only [wput, List.set, Option.toList, List.nil_append, List.cons_append]
    refine v_istore (n := 277) k dL_law_275 rfl (by decide) rfl rfl ?_
    refine v_aload_n (n := 278) k dL_law_277 rfl rfl ?_
    refine v_rdVi (n := 281) k [16] 16 (z_X5_thrown) miX5_thrown ml_L_51 (by decide) (by decide) rfl (by decide) rfl rfl rfl rfl (Nat.le_of_ble_eq_true rfl) (by rw [k.2.2.2.2.2.2.2.2]; exact ⟨by show _ ≤ 601024; omega, by show _ ≤ 7293034; omega⟩) dL_law_278 rfl ?_
    refine v_iload (n := 283) k dL_law_281 rfl rfl ?_
    refine v_icmpS (t := 288) k (rfl) dL_law_283 (by decide) ?_
    refine v_iload (n := 290) k dL_law_288 rfl rfl ?_
    refine v_if_ne (n := 293) (t := 305) k (⟨by omega, by omega⟩) dL_law_290 (by decide) rfl (fun c_290 => ?_) (fun c_290 => ?_)
    · refine v_goto (t := 792) k dL_law_305 (by decide) ?_
      refine v_lvf [(0, .ref b), (1, .ref hx), (2, .ref hm), (3, .ref ho), (4, .int (iI ((i : Nat) : Int)))] ⟨rfl, rfl, rfl, rfl, rfl, trivial⟩ ?_
      exact hk9 pg lg (C, wt, al, dn) ko K fb fh fj fi tp T an An _ Cm Dr En Ot Ib Bd Mn q Ou Cg ch O hS
    · exfalso; omega
set_option maxHeartbeats 1000000 in
set_option maxRecDepth 20000 in
theorem st_law_2 {D : va_G} {cI cB cJ cZ : ClassId} {x : Kx} {A : Nat → Prop} {cells slots i L b : Nat} {xs : Nat → Int32} {hx hd hc hk hch hb hbb hh hhb ht htb ha hj hi hjb hib : Nat} {hm : Nat} {r : Nat → Nat} {ho : Nat} {pg lg : Nat} {C : Nat → Nat} {wt al dn ko : Int} {K fb fh fj fi : Nat → Nat} {tp : Nat} {T : Nat → Nat} {an : Nat} {An : Nat → Nat} {th : Int} {Cm Dr En Ot : Nat → Nat} {Ib : Nat → Bool} {Bd Mn : Nat → Nat} {q : RQ} {Ou Cg : Nat → Nat} {ch : Nat} {O : Nat → Int64} (k : Kf x cL_law 7 RL (some .boolean) D (TY cI cB cJ cZ) room_1) (kt : Kt A x.2.2.2.2.1 x.2.2.2.2.1.heap) (hst9 : x.2.1.stackTraces = false) (hX : SCR x A b L xs) (hi6 : i + 6 ≤ L) (hcs : cells + 1 ≤ 601024 ∧ slots + 6 ≤ 7293034) (hS : SI pg lg (C, wt, al, dn) ko K Cm Dr En Ib Bd Mn q Cg tp T an An) (hk9 : ∀ (pg lg : Nat) (a : DA) (ko : Int) (K fb fh fj fi : Nat → Nat) (tp : Nat) (T : Nat → Nat) (an : Nat) (An : Nat → Nat) (th : Int) (Cm Dr En Ot : Nat → Nat) (Ib : Nat → Bool) (Bd Mn : Nat → Nat) (q : RQ) (Ou Cg : Nat → Nat) (ch : Nat) (O : Nat → Int64), SI pg lg a ko K Cm Dr En Ib Bd Mn q Cg tp T an An → Vw x 7 A D true (cells + 1) (slots + 6) [oHash hx hd hch hb hh ht ha ((an : Nat) : Int), oDisk hd hc hk ko pg lg a.2.1 a.2.2.1 a.2.2.2, aN cI hc 65280 a.1, aN cI hk 255 K, oChange hch hd hj hi, oPage hb hbb, aN cI hbb 256 fb, oPage hh hhb, aN cI hhb 256 fh, oPage hj hjb, aN cI hjb 256 fj, oPage hi hib, aN cI hib 256 fi, oTape ht htb ((tp : Nat) : Int), aN cI htb 48 T, aN cI ha 32 An, oM hm r (th) (pg) (lg) (a.2.1) (a.2.2.1) (a.2.2.2) (a.1 0) (pF (a.1 0)) (tp) (an) (ch), aB cB (r 0) 65536 (Cm), aN cI (r 1) 256 (Dr), aN cI (r 2) 65536 (En), aN cI (r 3) 65536 (Ot), aZ cZ (r 4) 256 (Ib), aN cI (r 5) 256 (Bd), aN cI (r 6) 256 (Mn), aN cI (r 7) 23040 (q).1, aN cI (r 8) 23040 (q).2.1, aL cJ (r 9) 46080 (q).2.2.1, aL cJ (r 10) 92160 (q).2.2.2, aB cB (r 11) 48 (T), aB cB (r 12) 32 (An), aN cI (r 13) 256 (Ou), aN cI (r 14) 256 (Cg), aL cJ ho 1 O] 792 [(0, .ref b), (1, .ref hx), (2, .ref hm), (3, .ref ho), (4, .int (iI ((i : Nat) : Int)))] []) : Vw x 7 A D true cells slots [oHash hx hd hch hb hh ht ha ((an : Nat) : Int), oDisk hd hc hk ko pg lg wt al dn, aN cI hc 65280 C, aN cI hk 255 K, oChange hch hd hj hi, oPage hb hbb, aN cI hbb 256 fb, oPage hh hhb, aN cI hhb 256 fh, oPage hj hjb, aN cI hjb 256 fj, oPage hi hib, aN cI hib 256 fi, oTape ht htb ((tp : Nat) : Int), aN cI htb 48 T, aN cI ha 32 An, oM hm r (th) (pg) (lg) (wt) (al) (dn) (C 0) (pF (C 0)) (tp) (an) (ch), aB cB (r 0) 65536 (Cm), aN cI (r 1) 256 (Dr), aN cI (r 2) 65536 (En), aN cI (r 3) 65536 (Ot), aZ cZ (r 4) 256 (Ib), aN cI (r 5) 256 (Bd), aN cI (r 6) 256 (Mn), aN cI (r 7) 23040 (q).1, aN cI (r 8) 23040 (q).2.1, aL cJ (r 9) 46080 (q).2.2.1, aL cJ (r 10) 92160 (q).2.2.2, aB cB (r 11) 48 (T), aB cB (r 12) 32 (An), aN cI (r 13) 256 (Ou), aN cI (r 14) 256 (Cg), aL cJ ho 1 O] 308 [(0, .ref b), (1, .ref hx), (2, .ref hm), (3, .ref ho), (4, .int (iI ((i : Nat) : Int)))] [] := by
  obtain ⟨hSD, hks, hRI, htp, hT, han, hAn⟩ := id hS
  obtain ⟨hA, hal, hR, hGc⟩ := id hRI
  replace hA : AGP pg Cm C := hA
  replace hal : in32 al := hal
  replace hR : RM C lg Dr En Ib Bd Mn q := hR
  replace hks : KS ko K C pg lg := hks
  have hC : ∀ j, C j < 256 := hSD.bt
  have hdn : dn = 0 ∨ dn = 1 := hSD.dn
  have hda : dn = 0 ∨ (dn = 1 ∧ al = 0) := hSD.da
  have hU : dn = 0 → INV pg lg C := hSD.up
  have hw : DW C pg lg := hSD.ok.1
  have hE : EB C pg lg := hSD.ok.2
  have hDN : DNS C pg lg := hSD.dns
  have w2 := hw.2.1
  have hL9 := hX.2.2.2
  refine v_aload_n (n := 309) k dL_law_308 rfl rfl ?_
  refine v_aload_n (n := 310) k dL_law_309 rfl rfl ?_
  refine v_iload (n := 312) k dL_law_310 rfl rfl ?_
  refine v_iconst (n := 313) k dL_law_312 rfl ?_
  refine v_iadd (n := 314) k dL_law_313 rfl ?_
  refine v_xald (n := 315) k hX (i + 1) (by omega) (by omega) dL_law_314 rfl ?_
  refine v_aload_n (n := 316) k dL_law_315 rfl rfl ?_
  refine v_callL (n := 319) k kt hst9 [0, 1, 2, 3, 4, 5, 6, 7, 8, 9, 10, 11, 12, 13, 14, 15, 32] (z_L_put (xI_in xs _) hdn hU htp hT hks hal) mw_put ml_L_60 (by decide) (by decide) rfl (by decide) rfl rfl (Nat.le_of_ble_eq_true rfl) ⟨by show _ ≤ 601024; omega, by show _ ≤ 7293034; omega⟩ dL_law_316 rfl ?_
  rintro v w1 (⟨rfl, ht9, a9, s9, ko9, K9, fb9, fh9, fj9, fi9, hF9, hks9, hal9, rfl⟩ | ⟨rfl, ht9, rfl⟩)
  · dsimp only [wput, List.set, Option.toList, List.nil_append, List.cons_append]
    refine v_istore (n := 321) k dL_law_319 rfl (by decide) rfl rfl ?_
    refine v_aload_n (n := 322) k dL_law_321 rfl rfl ?_
    refine v_aload_n (n := 323) k dL_law_322 rfl rfl ?_
    refine v_iload (n := 325) k dL_law_323 rfl rfl ?_
    refine v_iconst (n := 326) k dL_law_325 rfl ?_
    refine v_iadd (n := 327) k dL_law_326 rfl ?_
    refine v_xald (n := 328) k hX (i + 1) (by omega) (by omega) dL_law_327 rfl ?_
    refine v_upV (n := 331) k [16, 17, 18, 19, 20, 21, 22, 23, 24, 25, 26, 27, 28, 30, 31] 16 (z_X5_put (xI_in xs _) hdn hU hRI htp hT) miX5_put ml_L_63 (by decide) (by decide) rfl (by decide) rfl rfl rfl rfl (Nat.le_of_ble_eq_true rfl) (by rw [k.2.2.2.2.2.2.2.2]; exact ⟨by show _ ≤ 601024; omega, by show _ ≤ 7293034; omega⟩) dL_law_328 rfl ?_
    rintro _ _ ⟨a8, s8, Cm9, Dr9, En9, Ot9, Ib9, Bd9, Mn9, q9, Ou9, Cg9, ch9, hst, rfl, hI9, rfl⟩
    rw [if_pos ht9] at hst
    have hf9 := pu_0 ht9
    have hd0 : dn = 0 := by omega
    subst hd0
    obtain ⟨h8, h7⟩ := Prod.mk.inj (hF9.symm.trans hst)
    subst h8
    subst h7
    dsimp only [wput, List.set, Option.toList, List.nil_append, List.cons_append]
    refine v_istore (n := 333) k dL_law_331 rfl (by decide) rfl rfl ?_
    refine v_aload_n (n := 334) k dL_law_333 rfl rfl ?_
    refine v_rdVi (n := 337) k [16] 16 (z_X5_thrown) miX5_thrown ml_L_51 (by decide) (by decide) rfl (by decide) rfl rfl rfl rfl (Nat.le_of_ble_eq_true rfl) (by rw [k.2.2.2.2.2.2.2.2]; exact ⟨by show _ ≤ 601024; omega, by show _ ≤ 7293034; omega⟩) dL_law_334 rfl ?_
    refine v_iload (n := 339) k dL_law_337 rfl rfl ?_
    refine v_icmpS (t := 344) k (by rw [ht9]) dL_law_339 (by decide) ?_
    refine v_iload (n := 346) k dL_law_344 rfl rfl ?_
    refine v_if_ne (n := 349) (t := 361) k (⟨by omega, by omega⟩) dL_law_346 (by decide) rfl (fun c_346 => ?_) (fun c_346 => ?_)
    · exfalso; omega
    · refine v_aload_n (n := 350) k dL_law_349 rfl rfl ?_
      refine v_iconst (n := 351) k dL_law_350 rfl ?_
      refine v_laldN (n := 352) k 32 2 (0) rfl rfl (by omega) (by omega) (by omega) dL_law_351 rfl ?_
      refine v_iload (n := 354) k dL_law_352 rfl rfl ?_
      refine v_i2l (n := 355) k dL_law_354 rfl ?_
      refine v_lcmpE (n := 356) k (rfl) dL_law_355 rfl ?_
      refine v_if_eq (n := 359) (t := 361) k (⟨by omega, by omega⟩) dL_law_356 (by decide) rfl (fun c_356 => ?_) (fun c_356 => ?_)
      · refine v_goto (t := 792) k dL_law_361 (by decide) ?_
        refine v_lvf [(0, .ref b), (1, .ref hx), (2, .ref hm), (3, .ref ho), (4, .int (iI ((i : Nat) : Int)))] ⟨rfl, rfl, rfl, rfl, rfl, trivial⟩ ?_
        exact hk9 pg lg a9 ko9 K9 fb9 fh9 fj9 fi9 0 T an An _ Cm9 Dr9 En9 Ot9 Ib9 Bd9 Mn9 q9 Ou9 Cg9 ch9 _ ⟨pf_sd hT (by omega) (by omega) (by omega) (by omega) (hU rfl) hC hF9, hks9, hI9, by omega, hT, han, hAn⟩
      · exfalso; omega
  · dsimp only [wput, List.set, Option.toList, List.nil_append, List.cons_append]
    refine v_istore (n := 321) k dL_law_319 rfl (by decide) rfl rfl ?_
    refine v_aload_n (n := 322) k dL_law_321 rfl rfl ?_
    refine v_aload_n (n := 323) k dL_law_322 rfl rfl ?_
    refine v_iload (n := 325) k dL_law_323 rfl rfl ?_
    refine v_iconst (n := 326) k dL_law_325 rfl ?_
    refine v_iadd (n := 327) k dL_law_326 rfl ?_
    refine v_xald (n := 328) k hX (i + 1) (by omega) (by omega) dL_law_327 rfl ?_
    refine v_upV (n := 331) k [16, 17, 18, 19, 20, 21, 22, 23, 24, 25, 26, 27, 28, 30, 31] 16 (z_X5_put (xI_in xs _) hdn hU hRI htp hT) miX5_put ml_L_63 (by decide) (by decide) rfl (by decide) rfl rfl rfl rfl (Nat.le_of_ble_eq_true rfl) (by rw [k.2.2.2.2.2.2.2.2]; exact ⟨by show _ ≤ 601024; omega, by show _ ≤ 7293034; omega⟩) dL_law_328 rfl ?_
    rintro _ _ ⟨a8, s8, Cm9, Dr9, En9, Ot9, Ib9, Bd9, Mn9, q9, Ou9, Cg9, ch9, hst, rfl, hI9, rfl⟩
    rw [if_neg ht9] at hst
    cases hst
    have hb9 := pu_in ht9
    dsimp only [wput, List.set, Option.toList, List.nil_append, List.cons_append]
    refine v_istore (n := 333) k dL_law_331 rfl (by decide) rfl rfl ?_
    refine v_aload_n (n := 334) k dL_law_333 rfl rfl ?_
    refine v_rdVi (n := 337) k [16] 16 (z_X5_thrown) miX5_thrown ml_L_51 (by decide) (by decide) rfl (by decide) rfl rfl rfl rfl (Nat.le_of_ble_eq_true rfl) (by rw [k.2.2.2.2.2.2.2.2]; exact ⟨by show _ ≤ 601024; omega, by show _ ≤ 7293034; omega⟩) dL_law_334 rfl ?_
    refine v_iload (n := 339) k dL_law_337 rfl rfl ?_
    refine v_icmpS (t := 344) k (rfl) dL_law_339 (by decide) ?_
    refine v_iload (n := 346) k dL_law_344 rfl rfl ?_
    refine v_if_ne (n := 349) (t := 361) k (⟨by omega, by omega⟩) dL_law_346 (by decide) rfl (fun c_346 => ?_) (fun c_346 => ?_)
    · refine v_goto (t := 792) k dL_law_361 (by decide) ?_
      refine v_lvf [(0, .ref b), (1, .ref hx), (2, .ref hm), (3, .ref ho), (4, .int (iI ((i : Nat) : Int)))] ⟨rfl, rfl, rfl, rfl, rfl, trivial⟩ ?_
      exact hk9 pg lg (C, wt, al, dn) ko K fb fh fj fi 0 T an An _ Cm9 Dr9 En9 Ot9 Ib9 Bd9 Mn9 q9 Ou9 Cg9 ch9 O ⟨hSD, hks, hI9, by omega, hT, han, hAn⟩
    · exfalso; omega
set_option maxHeartbeats 1000000 in
set_option maxRecDepth 20000 in
theorem st_law_3 {D : va_G} {cI cB cJ cZ : ClassId} {x : Kx} {A : Nat → Prop} {cells slots i L b : Nat} {xs : Nat → Int32} {hx hd hc hk hch hb hbb hh hhb ht htb ha hj hi hjb hib : Nat} {hm : Nat} {r : Nat → Nat} {ho : Nat} {pg lg : Nat} {C : Nat → Nat} {wt al dn ko : Int} {K fb fh fj fi : Nat → Nat} {tp : Nat} {T : Nat → Nat} {an : Nat} {An : Nat → Nat} {th : Int} {Cm Dr En Ot : Nat → Nat} {Ib : Nat → Bool} {Bd Mn : Nat → Nat} {q : RQ} {Ou Cg : Nat → Nat} {ch : Nat} {O : Nat → Int64} (k : Kf x cL_law 7 RL (some .boolean) D (TY cI cB cJ cZ) room_1) (kt : Kt A x.2.2.2.2.1 x.2.2.2.2.1.heap) (hst9 : x.2.1.stackTraces = false) (hX : SCR x A b L xs) (hi6 : i + 6 ≤ L) (hcs : cells + 1 ≤ 601024 ∧ slots + 6 ≤ 7293034) (hS : SI pg lg (C, wt, al, dn) ko K Cm Dr En Ib Bd Mn q Cg tp T an An) (hk9 : ∀ (pg lg : Nat) (a : DA) (ko : Int) (K fb fh fj fi : Nat → Nat) (tp : Nat) (T : Nat → Nat) (an : Nat) (An : Nat → Nat) (th : Int) (Cm Dr En Ot : Nat → Nat) (Ib : Nat → Bool) (Bd Mn : Nat → Nat) (q : RQ) (Ou Cg : Nat → Nat) (ch : Nat) (O : Nat → Int64), SI pg lg a ko K Cm Dr En Ib Bd Mn q Cg tp T an An → Vw x 7 A D true (cells + 1) (slots + 6) [oHash hx hd hch hb hh ht ha ((an : Nat) : Int), oDisk hd hc hk ko pg lg a.2.1 a.2.2.1 a.2.2.2, aN cI hc 65280 a.1, aN cI hk 255 K, oChange hch hd hj hi, oPage hb hbb, aN cI hbb 256 fb, oPage hh hhb, aN cI hhb 256 fh, oPage hj hjb, aN cI hjb 256 fj, oPage hi hib, aN cI hib 256 fi, oTape ht htb ((tp : Nat) : Int), aN cI htb 48 T, aN cI ha 32 An, oM hm r (th) (pg) (lg) (a.2.1) (a.2.2.1) (a.2.2.2) (a.1 0) (pF (a.1 0)) (tp) (an) (ch), aB cB (r 0) 65536 (Cm), aN cI (r 1) 256 (Dr), aN cI (r 2) 65536 (En), aN cI (r 3) 65536 (Ot), aZ cZ (r 4) 256 (Ib), aN cI (r 5) 256 (Bd), aN cI (r 6) 256 (Mn), aN cI (r 7) 23040 (q).1, aN cI (r 8) 23040 (q).2.1, aL cJ (r 9) 46080 (q).2.2.1, aL cJ (r 10) 92160 (q).2.2.2, aB cB (r 11) 48 (T), aB cB (r 12) 32 (An), aN cI (r 13) 256 (Ou), aN cI (r 14) 256 (Cg), aL cJ ho 1 O] 792 [(0, .ref b), (1, .ref hx), (2, .ref hm), (3, .ref ho), (4, .int (iI ((i : Nat) : Int)))] []) : Vw x 7 A D true cells slots [oHash hx hd hch hb hh ht ha ((an : Nat) : Int), oDisk hd hc hk ko pg lg wt al dn, aN cI hc 65280 C, aN cI hk 255 K, oChange hch hd hj hi, oPage hb hbb, aN cI hbb 256 fb, oPage hh hhb, aN cI hhb 256 fh, oPage hj hjb, aN cI hjb 256 fj, oPage hi hib, aN cI hib 256 fi, oTape ht htb ((tp : Nat) : Int), aN cI htb 48 T, aN cI ha 32 An, oM hm r (th) (pg) (lg) (wt) (al) (dn) (C 0) (pF (C 0)) (tp) (an) (ch), aB cB (r 0) 65536 (Cm), aN cI (r 1) 256 (Dr), aN cI (r 2) 65536 (En), aN cI (r 3) 65536 (Ot), aZ cZ (r 4) 256 (Ib), aN cI (r 5) 256 (Bd), aN cI (r 6) 256 (Mn), aN cI (r 7) 23040 (q).1, aN cI (r 8) 23040 (q).2.1, aL cJ (r 9) 46080 (q).2.2.1, aL cJ (r 10) 92160 (q).2.2.2, aB cB (r 11) 48 (T), aB cB (r 12) 32 (An), aN cI (r 13) 256 (Ou), aN cI (r 14) 256 (Cg), aL cJ ho 1 O] 364 [(0, .ref b), (1, .ref hx), (2, .ref hm), (3, .ref ho), (4, .int (iI ((i : Nat) : Int)))] [] := by
  obtain ⟨hSD, hks, hRI, htp, hT, han, hAn⟩ := id hS
  obtain ⟨hA, hal, hR, hGc⟩ := id hRI
  replace hA : AGP pg Cm C := hA
  replace hal : in32 al := hal
  replace hR : RM C lg Dr En Ib Bd Mn q := hR
  replace hks : KS ko K C pg lg := hks
  have hC : ∀ j, C j < 256 := hSD.bt
  have hdn : dn = 0 ∨ dn = 1 := hSD.dn
  have hda : dn = 0 ∨ (dn = 1 ∧ al = 0) := hSD.da
  have hU : dn = 0 → INV pg lg C := hSD.up
  have hw : DW C pg lg := hSD.ok.1
  have hE : EB C pg lg := hSD.ok.2
  have hDN : DNS C pg lg := hSD.dns
  have w2 := hw.2.1
  have hL9 := hX.2.2.2
  refine v_aload_n (n := 365) k dL_law_364 rfl rfl ?_
  refine v_aload_n (n := 366) k dL_law_365 rfl rfl ?_
  refine v_callL (n := 369) k kt hst9 [0, 1, 2, 3, 4, 5, 6, 7, 8, 9, 10, 11, 12, 13, 14, 15, 32] (z_L_remove hdn hU htp hT hks hal) mw_remove ml_L_64 (by decide) (by decide) rfl (by decide) rfl rfl (Nat.le_of_ble_eq_true rfl) ⟨by show _ ≤ 601024; omega, by show _ ≤ 7293034; omega⟩ dL_law_366 rfl ?_
  rintro v w1 (⟨rfl, ht9, a9, s9, ko9, K9, fb9, fh9, fj9, fi9, hF9, hks9, hal9, rfl⟩ | ⟨rfl, ht9, rfl⟩)
  · dsimp only [wput, List.set, Option.toList, List.nil_append, List.cons_append]
    refine v_istore (n := 371) k dL_law_369 rfl (by decide) rfl rfl ?_
    refine v_aload_n (n := 372) k dL_law_371 rfl rfl ?_
    refine v_upV (n := 375) k [16, 17, 18, 19, 20, 21, 22, 23, 24, 25, 26, 27, 28, 30, 31] 16 (z_X5_remove hdn hU hRI htp hT) miX5_remove ml_L_67 (by decide) (by decide) rfl (by decide) rfl rfl rfl rfl (Nat.le_of_ble_eq_true rfl) (by rw [k.2.2.2.2.2.2.2.2]; exact ⟨by show _ ≤ 601024; omega, by show _ ≤ 7293034; omega⟩) dL_law_372 rfl ?_
    rintro _ _ ⟨a8, s8, Cm9, Dr9, En9, Ot9, Ib9, Bd9, Mn9, q9, Ou9, Cg9, ch9, hst, rfl, hI9, rfl⟩
    rw [if_pos ht9] at hst
    have hf9 := rm_0 ht9
    have hd0 : dn = 0 := by omega
    subst hd0
    obtain ⟨h8, h7⟩ := Prod.mk.inj (hF9.symm.trans hst)
    subst h8
    subst h7
    dsimp only [wput, List.set, Option.toList, List.nil_append, List.cons_append]
    refine v_istore (n := 377) k dL_law_375 rfl (by decide) rfl rfl ?_
    refine v_aload_n (n := 378) k dL_law_377 rfl rfl ?_
    refine v_rdVi (n := 381) k [16] 16 (z_X5_thrown) miX5_thrown ml_L_51 (by decide) (by decide) rfl (by decide) rfl rfl rfl rfl (Nat.le_of_ble_eq_true rfl) (by rw [k.2.2.2.2.2.2.2.2]; exact ⟨by show _ ≤ 601024; omega, by show _ ≤ 7293034; omega⟩) dL_law_378 rfl ?_
    refine v_iload (n := 383) k dL_law_381 rfl rfl ?_
    refine v_icmpS (t := 388) k (by rw [ht9]) dL_law_383 (by decide) ?_
    refine v_iload (n := 390) k dL_law_388 rfl rfl ?_
    refine v_if_ne (n := 393) (t := 405) k (⟨by omega, by omega⟩) dL_law_390 (by decide) rfl (fun c_390 => ?_) (fun c_390 => ?_)
    · exfalso; omega
    · refine v_aload_n (n := 394) k dL_law_393 rfl rfl ?_
      refine v_iconst (n := 395) k dL_law_394 rfl ?_
      refine v_laldN (n := 396) k 32 2 (0) rfl rfl (by omega) (by omega) (by omega) dL_law_395 rfl ?_
      refine v_iload (n := 398) k dL_law_396 rfl rfl ?_
      refine v_i2l (n := 399) k dL_law_398 rfl ?_
      refine v_lcmpE (n := 400) k (rfl) dL_law_399 rfl ?_
      refine v_if_eq (n := 403) (t := 405) k (⟨by omega, by omega⟩) dL_law_400 (by decide) rfl (fun c_400 => ?_) (fun c_400 => ?_)
      · refine v_goto (t := 792) k dL_law_405 (by decide) ?_
        refine v_lvf [(0, .ref b), (1, .ref hx), (2, .ref hm), (3, .ref ho), (4, .int (iI ((i : Nat) : Int)))] ⟨rfl, rfl, rfl, rfl, rfl, trivial⟩ ?_
        exact hk9 pg lg a9 ko9 K9 fb9 fh9 fj9 fi9 0 T an An _ Cm9 Dr9 En9 Ot9 Ib9 Bd9 Mn9 q9 Ou9 Cg9 ch9 _ ⟨rv_sd (hU rfl) hC hF9, hks9, hI9, by omega, hT, han, hAn⟩
      · exfalso; omega
  · dsimp only [wput, List.set, Option.toList, List.nil_append, List.cons_append]
    refine v_istore (n := 371) k dL_law_369 rfl (by decide) rfl rfl ?_
    refine v_aload_n (n := 372) k dL_law_371 rfl rfl ?_
    refine v_upV (n := 375) k [16, 17, 18, 19, 20, 21, 22, 23, 24, 25, 26, 27, 28, 30, 31] 16 (z_X5_remove hdn hU hRI htp hT) miX5_remove ml_L_67 (by decide) (by decide) rfl (by decide) rfl rfl rfl rfl (Nat.le_of_ble_eq_true rfl) (by rw [k.2.2.2.2.2.2.2.2]; exact ⟨by show _ ≤ 601024; omega, by show _ ≤ 7293034; omega⟩) dL_law_372 rfl ?_
    rintro _ _ ⟨a8, s8, Cm9, Dr9, En9, Ot9, Ib9, Bd9, Mn9, q9, Ou9, Cg9, ch9, hst, rfl, hI9, rfl⟩
    rw [if_neg ht9] at hst
    cases hst
    have hb9 := rm_in ht9
    dsimp only [wput, List.set, Option.toList, List.nil_append, List.cons_append]
    refine v_istore (n := 377) k dL_law_375 rfl (by decide) rfl rfl ?_
    refine v_aload_n (n := 378) k dL_law_377 rfl rfl ?_
    refine v_rdVi (n := 381) k [16] 16 (z_X5_thrown) miX5_thrown ml_L_51 (by decide) (by decide) rfl (by decide) rfl rfl rfl rfl (Nat.le_of_ble_eq_true rfl) (by rw [k.2.2.2.2.2.2.2.2]; exact ⟨by show _ ≤ 601024; omega, by show _ ≤ 7293034; omega⟩) dL_law_378 rfl ?_
    refine v_iload (n := 383) k dL_law_381 rfl rfl ?_
    refine v_icmpS (t := 388) k (rfl) dL_law_383 (by decide) ?_
    refine v_iload (n := 390) k dL_law_388 rfl rfl ?_
    refine v_if_ne (n := 393) (t := 405) k (⟨by omega, by omega⟩) dL_law_390 (by decide) rfl (fun c_390 => ?_) (fun c_390 => ?_)
    · refine v_goto (t := 792) k dL_law_405 (by decide) ?_
      refine v_lvf [(0, .ref b), (1, .ref hx), (2, .ref hm), (3, .ref ho), (4, .int (iI ((i : Nat) : Int)))] ⟨rfl, rfl, rfl, rfl, rfl, trivial⟩ ?_
      exact hk9 pg lg (C, wt, al, dn) ko K fb fh fj fi 0 T an An _ Cm9 Dr9 En9 Ot9 Ib9 Bd9 Mn9 q9 Ou9 Cg9 ch9 O ⟨hSD, hks, hI9, by omega, hT, han, hAn⟩
    · exfalso; omega
set_option maxHeartbeats 1000000 in
set_option maxRecDepth 20000 in
theorem st_law_4 {D : va_G} {cI cB cJ cZ : ClassId} {x : Kx} {A : Nat → Prop} {cells slots i L b : Nat} {xs : Nat → Int32} {hx hd hc hk hch hb hbb hh hhb ht htb ha hj hi hjb hib : Nat} {hm : Nat} {r : Nat → Nat} {ho : Nat} {pg lg : Nat} {C : Nat → Nat} {wt al dn ko : Int} {K fb fh fj fi : Nat → Nat} {tp : Nat} {T : Nat → Nat} {an : Nat} {An : Nat → Nat} {th : Int} {Cm Dr En Ot : Nat → Nat} {Ib : Nat → Bool} {Bd Mn : Nat → Nat} {q : RQ} {Ou Cg : Nat → Nat} {ch : Nat} {O : Nat → Int64} (k : Kf x cL_law 7 RL (some .boolean) D (TY cI cB cJ cZ) room_1) (kt : Kt A x.2.2.2.2.1 x.2.2.2.2.1.heap) (hst9 : x.2.1.stackTraces = false) (hX : SCR x A b L xs) (hi6 : i + 6 ≤ L) (hcs : cells + 1 ≤ 601024 ∧ slots + 6 ≤ 7293034) (hS : SI pg lg (C, wt, al, dn) ko K Cm Dr En Ib Bd Mn q Cg tp T an An) (hk9 : ∀ (pg lg : Nat) (a : DA) (ko : Int) (K fb fh fj fi : Nat → Nat) (tp : Nat) (T : Nat → Nat) (an : Nat) (An : Nat → Nat) (th : Int) (Cm Dr En Ot : Nat → Nat) (Ib : Nat → Bool) (Bd Mn : Nat → Nat) (q : RQ) (Ou Cg : Nat → Nat) (ch : Nat) (O : Nat → Int64), SI pg lg a ko K Cm Dr En Ib Bd Mn q Cg tp T an An → Vw x 7 A D true (cells + 1) (slots + 6) [oHash hx hd hch hb hh ht ha ((an : Nat) : Int), oDisk hd hc hk ko pg lg a.2.1 a.2.2.1 a.2.2.2, aN cI hc 65280 a.1, aN cI hk 255 K, oChange hch hd hj hi, oPage hb hbb, aN cI hbb 256 fb, oPage hh hhb, aN cI hhb 256 fh, oPage hj hjb, aN cI hjb 256 fj, oPage hi hib, aN cI hib 256 fi, oTape ht htb ((tp : Nat) : Int), aN cI htb 48 T, aN cI ha 32 An, oM hm r (th) (pg) (lg) (a.2.1) (a.2.2.1) (a.2.2.2) (a.1 0) (pF (a.1 0)) (tp) (an) (ch), aB cB (r 0) 65536 (Cm), aN cI (r 1) 256 (Dr), aN cI (r 2) 65536 (En), aN cI (r 3) 65536 (Ot), aZ cZ (r 4) 256 (Ib), aN cI (r 5) 256 (Bd), aN cI (r 6) 256 (Mn), aN cI (r 7) 23040 (q).1, aN cI (r 8) 23040 (q).2.1, aL cJ (r 9) 46080 (q).2.2.1, aL cJ (r 10) 92160 (q).2.2.2, aB cB (r 11) 48 (T), aB cB (r 12) 32 (An), aN cI (r 13) 256 (Ou), aN cI (r 14) 256 (Cg), aL cJ ho 1 O] 792 [(0, .ref b), (1, .ref hx), (2, .ref hm), (3, .ref ho), (4, .int (iI ((i : Nat) : Int)))] []) : Vw x 7 A D true cells slots [oHash hx hd hch hb hh ht ha ((an : Nat) : Int), oDisk hd hc hk ko pg lg wt al dn, aN cI hc 65280 C, aN cI hk 255 K, oChange hch hd hj hi, oPage hb hbb, aN cI hbb 256 fb, oPage hh hhb, aN cI hhb 256 fh, oPage hj hjb, aN cI hjb 256 fj, oPage hi hib, aN cI hib 256 fi, oTape ht htb ((tp : Nat) : Int), aN cI htb 48 T, aN cI ha 32 An, oM hm r (th) (pg) (lg) (wt) (al) (dn) (C 0) (pF (C 0)) (tp) (an) (ch), aB cB (r 0) 65536 (Cm), aN cI (r 1) 256 (Dr), aN cI (r 2) 65536 (En), aN cI (r 3) 65536 (Ot), aZ cZ (r 4) 256 (Ib), aN cI (r 5) 256 (Bd), aN cI (r 6) 256 (Mn), aN cI (r 7) 23040 (q).1, aN cI (r 8) 23040 (q).2.1, aL cJ (r 9) 46080 (q).2.2.1, aL cJ (r 10) 92160 (q).2.2.2, aB cB (r 11) 48 (T), aB cB (r 12) 32 (An), aN cI (r 13) 256 (Ou), aN cI (r 14) 256 (Cg), aL cJ ho 1 O] 408 [(0, .ref b), (1, .ref hx), (2, .ref hm), (3, .ref ho), (4, .int (iI ((i : Nat) : Int)))] [] := by
  obtain ⟨hSD, hks, hRI, htp, hT, han, hAn⟩ := id hS
  obtain ⟨hA, hal, hR, hGc⟩ := id hRI
  replace hA : AGP pg Cm C := hA
  replace hal : in32 al := hal
  replace hR : RM C lg Dr En Ib Bd Mn q := hR
  replace hks : KS ko K C pg lg := hks
  have hC : ∀ j, C j < 256 := hSD.bt
  have hdn : dn = 0 ∨ dn = 1 := hSD.dn
  have hda : dn = 0 ∨ (dn = 1 ∧ al = 0) := hSD.da
  have hU : dn = 0 → INV pg lg C := hSD.up
  have hw : DW C pg lg := hSD.ok.1
  have hE : EB C pg lg := hSD.ok.2
  have hDN : DNS C pg lg := hSD.dns
  have w2 := hw.2.1
  have hL9 := hX.2.2.2
  refine v_aload_n (n := 409) k dL_law_408 rfl rfl ?_
  refine v_aload_n (n := 410) k dL_law_409 rfl rfl ?_
  refine v_callL (n := 413) k kt hst9 [0, 1, 2, 3, 4, 5, 6, 7, 8, 9, 10, 11, 12, 13, 14, 15, 32] (z_L_get hdn hU htp hT) mw_get ml_L_68 (by decide) (by decide) rfl (by decide) rfl rfl (Nat.le_of_ble_eq_true rfl) ⟨by show _ ≤ 601024; omega, by show _ ≤ 7293034; omega⟩ dL_law_410 rfl ?_
  rintro v w1 (⟨rfl, rfl, rfl⟩ | ⟨rfl, rfl, rfl⟩)
  · dsimp only [wput, List.set, Option.toList, List.nil_append, List.cons_append]
    refine v_istore (n := 415) k dL_law_413 rfl (by decide) rfl rfl ?_
    refine v_aload_n (n := 416) k dL_law_415 rfl rfl ?_
    refine v_upV (n := 419) k [16, 19, 23, 24, 25, 26, 27, 28, 29] 16 (z_X5_get (Dr := Dr) (Ib := Ib) (Bd := Bd) hdn (fun z => (hU z).1) hR htp hT) miX5_get ml_L_70 (by decide) (by decide) rfl (by decide) rfl rfl rfl rfl (Nat.le_of_ble_eq_true rfl) (by rw [k.2.2.2.2.2.2.2.2]; exact ⟨by show _ ≤ 601024; omega, by show _ ≤ 7293034; omega⟩) dL_law_416 rfl ?_
    rintro _ _ h9
    obtain ⟨-, rfl, rfl⟩ := h9.resolve_left (fun z => absurd z.1 (by decide))
    dsimp only [wput, List.set, Option.toList, List.nil_append, List.cons_append]
    refine v_istore (n := 421) k dL_law_419 rfl (by decide) rfl rfl ?_
    refine v_aload_n (n := 422) k dL_law_421 rfl rfl ?_
    refine v_rdVi (n := 425) k [16] 16 (z_X5_thrown) miX5_thrown ml_L_51 (by decide) (by decide) rfl (by decide) rfl rfl rfl rfl (Nat.le_of_ble_eq_true rfl) (by rw [k.2.2.2.2.2.2.2.2]; exact ⟨by show _ ≤ 601024; omega, by show _ ≤ 7293034; omega⟩) dL_law_422 rfl ?_
    refine v_iload (n := 427) k dL_law_425 rfl rfl ?_
    refine v_icmpS (t := 432) k (rfl) dL_law_427 (by decide) ?_
    refine v_iload (n := 434) k dL_law_432 rfl rfl ?_
    refine v_if_ne (n := 437) (t := 449) k (⟨by omega, by omega⟩) dL_law_434 (by decide) rfl (fun c_434 => ?_) (fun c_434 => ?_)
    · exfalso; omega
    · refine v_aload_n (n := 438) k dL_law_437 rfl rfl ?_
      refine v_iconst (n := 439) k dL_law_438 rfl ?_
      refine v_laldN (n := 440) k 32 2 (0) rfl rfl (by omega) (by omega) (by omega) dL_law_439 rfl ?_
      refine v_iload (n := 442) k dL_law_440 rfl rfl ?_
      refine v_i2l (n := 443) k dL_law_442 rfl ?_
      refine v_lcmpE (n := 444) k (rfl) dL_law_443 rfl ?_
      refine v_if_eq (n := 447) (t := 449) k (⟨by omega, by omega⟩) dL_law_444 (by decide) rfl (fun c_444 => ?_) (fun c_444 => ?_)
      · refine v_goto (t := 792) k dL_law_449 (by decide) ?_
        refine v_lvf [(0, .ref b), (1, .ref hx), (2, .ref hm), (3, .ref ho), (4, .int (iI ((i : Nat) : Int)))] ⟨rfl, rfl, rfl, rfl, rfl, trivial⟩ ?_
        exact hk9 pg lg (C, wt, al, 0) ko K fb fh fj fi 0 T (gtV C T tp).toNat (gtB C T tp An) 0 Cm Dr En Ot Ib Bd Mn q Ou Cg ch _ ⟨hSD, hks, hRI, by decide, hT, gt_le (hU rfl), gtB_lt hC hAn⟩
      · exfalso; omega
  · dsimp only [wput, List.set, Option.toList, List.nil_append, List.cons_append]
    refine v_istore (n := 415) k dL_law_413 rfl (by decide) rfl rfl ?_
    refine v_aload_n (n := 416) k dL_law_415 rfl rfl ?_
    refine v_upV (n := 419) k [16, 19, 23, 24, 25, 26, 27, 28, 29] 16 (z_X5_get (Dr := Dr) (Ib := Ib) (Bd := Bd) hdn (fun z => (hU z).1) hR htp hT) miX5_get ml_L_70 (by decide) (by decide) rfl (by decide) rfl rfl rfl rfl (Nat.le_of_ble_eq_true rfl) (by rw [k.2.2.2.2.2.2.2.2]; exact ⟨by show _ ≤ 601024; omega, by show _ ≤ 7293034; omega⟩) dL_law_416 rfl ?_
    rintro _ _ h9
    obtain ⟨-, rfl, rfl⟩ := h9.resolve_right (fun z => absurd z.1 (by decide))
    dsimp only [wput, List.set, Option.toList, List.nil_append, List.cons_append]
    refine v_istore (n := 421) k dL_law_419 rfl (by decide) rfl rfl ?_
    refine v_aload_n (n := 422) k dL_law_421 rfl rfl ?_
    refine v_rdVi (n := 425) k [16] 16 (z_X5_thrown) miX5_thrown ml_L_51 (by decide) (by decide) rfl (by decide) rfl rfl rfl rfl (Nat.le_of_ble_eq_true rfl) (by rw [k.2.2.2.2.2.2.2.2]; exact ⟨by show _ ≤ 601024; omega, by show _ ≤ 7293034; omega⟩) dL_law_422 rfl ?_
    refine v_iload (n := 427) k dL_law_425 rfl rfl ?_
    refine v_icmpS (t := 432) k (rfl) dL_law_427 (by decide) ?_
    refine v_iload (n := 434) k dL_law_432 rfl rfl ?_
    refine v_if_ne (n := 437) (t := 449) k (⟨by omega, by omega⟩) dL_law_434 (by decide) rfl (fun c_434 => ?_) (fun c_434 => ?_)
    · refine v_goto (t := 792) k dL_law_449 (by decide) ?_
      refine v_lvf [(0, .ref b), (1, .ref hx), (2, .ref hm), (3, .ref ho), (4, .int (iI ((i : Nat) : Int)))] ⟨rfl, rfl, rfl, rfl, rfl, trivial⟩ ?_
      exact hk9 pg lg (C, wt, al, 1) ko K fb fh fj fi 0 T an An 1 Cm Dr En Ot Ib Bd Mn q Ou Cg ch O ⟨hSD, hks, hRI, by decide, hT, han, hAn⟩
    · exfalso; omega
set_option maxHeartbeats 1000000 in
set_option maxRecDepth 20000 in
theorem st_law_6 {D : va_G} {cI cB cJ cZ : ClassId} {x : Kx} {A : Nat → Prop} {cells slots i L b : Nat} {xs : Nat → Int32} {hx hd hc hk hch hb hbb hh hhb ht htb ha hj hi hjb hib : Nat} {hm : Nat} {r : Nat → Nat} {ho : Nat} {pg lg : Nat} {C : Nat → Nat} {wt al dn ko : Int} {K fb fh fj fi : Nat → Nat} {tp : Nat} {T : Nat → Nat} {an : Nat} {An : Nat → Nat} {th : Int} {Cm Dr En Ot : Nat → Nat} {Ib : Nat → Bool} {Bd Mn : Nat → Nat} {q : RQ} {Ou Cg : Nat → Nat} {ch : Nat} {O : Nat → Int64} (k : Kf x cL_law 7 RL (some .boolean) D (TY cI cB cJ cZ) room_1) (kt : Kt A x.2.2.2.2.1 x.2.2.2.2.1.heap) (hst9 : x.2.1.stackTraces = false) (hX : SCR x A b L xs) (hi6 : i + 6 ≤ L) (hcs : cells + 1 ≤ 601024 ∧ slots + 6 ≤ 7293034) (hS : SI pg lg (C, wt, al, dn) ko K Cm Dr En Ib Bd Mn q Cg tp T an An) (hk9 : ∀ (pg lg : Nat) (a : DA) (ko : Int) (K fb fh fj fi : Nat → Nat) (tp : Nat) (T : Nat → Nat) (an : Nat) (An : Nat → Nat) (th : Int) (Cm Dr En Ot : Nat → Nat) (Ib : Nat → Bool) (Bd Mn : Nat → Nat) (q : RQ) (Ou Cg : Nat → Nat) (ch : Nat) (O : Nat → Int64), SI pg lg a ko K Cm Dr En Ib Bd Mn q Cg tp T an An → Vw x 7 A D true (cells + 1) (slots + 6) [oHash hx hd hch hb hh ht ha ((an : Nat) : Int), oDisk hd hc hk ko pg lg a.2.1 a.2.2.1 a.2.2.2, aN cI hc 65280 a.1, aN cI hk 255 K, oChange hch hd hj hi, oPage hb hbb, aN cI hbb 256 fb, oPage hh hhb, aN cI hhb 256 fh, oPage hj hjb, aN cI hjb 256 fj, oPage hi hib, aN cI hib 256 fi, oTape ht htb ((tp : Nat) : Int), aN cI htb 48 T, aN cI ha 32 An, oM hm r (th) (pg) (lg) (a.2.1) (a.2.2.1) (a.2.2.2) (a.1 0) (pF (a.1 0)) (tp) (an) (ch), aB cB (r 0) 65536 (Cm), aN cI (r 1) 256 (Dr), aN cI (r 2) 65536 (En), aN cI (r 3) 65536 (Ot), aZ cZ (r 4) 256 (Ib), aN cI (r 5) 256 (Bd), aN cI (r 6) 256 (Mn), aN cI (r 7) 23040 (q).1, aN cI (r 8) 23040 (q).2.1, aL cJ (r 9) 46080 (q).2.2.1, aL cJ (r 10) 92160 (q).2.2.2, aB cB (r 11) 48 (T), aB cB (r 12) 32 (An), aN cI (r 13) 256 (Ou), aN cI (r 14) 256 (Cg), aL cJ ho 1 O] 792 [(0, .ref b), (1, .ref hx), (2, .ref hm), (3, .ref ho), (4, .int (iI ((i : Nat) : Int)))] []) : Vw x 7 A D true cells slots [oHash hx hd hch hb hh ht ha ((an : Nat) : Int), oDisk hd hc hk ko pg lg wt al dn, aN cI hc 65280 C, aN cI hk 255 K, oChange hch hd hj hi, oPage hb hbb, aN cI hbb 256 fb, oPage hh hhb, aN cI hhb 256 fh, oPage hj hjb, aN cI hjb 256 fj, oPage hi hib, aN cI hib 256 fi, oTape ht htb ((tp : Nat) : Int), aN cI htb 48 T, aN cI ha 32 An, oM hm r (th) (pg) (lg) (wt) (al) (dn) (C 0) (pF (C 0)) (tp) (an) (ch), aB cB (r 0) 65536 (Cm), aN cI (r 1) 256 (Dr), aN cI (r 2) 65536 (En), aN cI (r 3) 65536 (Ot), aZ cZ (r 4) 256 (Ib), aN cI (r 5) 256 (Bd), aN cI (r 6) 256 (Mn), aN cI (r 7) 23040 (q).1, aN cI (r 8) 23040 (q).2.1, aL cJ (r 9) 46080 (q).2.2.1, aL cJ (r 10) 92160 (q).2.2.2, aB cB (r 11) 48 (T), aB cB (r 12) 32 (An), aN cI (r 13) 256 (Ou), aN cI (r 14) 256 (Cg), aL cJ ho 1 O] 477 [(0, .ref b), (1, .ref hx), (2, .ref hm), (3, .ref ho), (4, .int (iI ((i : Nat) : Int)))] [] := by
  obtain ⟨hSD, hks, hRI, htp, hT, han, hAn⟩ := id hS
  obtain ⟨hA, hal, hR, hGc⟩ := id hRI
  replace hA : AGP pg Cm C := hA
  replace hal : in32 al := hal
  replace hR : RM C lg Dr En Ib Bd Mn q := hR
  replace hks : KS ko K C pg lg := hks
  have hC : ∀ j, C j < 256 := hSD.bt
  have hdn : dn = 0 ∨ dn = 1 := hSD.dn
  have hda : dn = 0 ∨ (dn = 1 ∧ al = 0) := hSD.da
  have hU : dn = 0 → INV pg lg C := hSD.up
  have hw : DW C pg lg := hSD.ok.1
  have hE : EB C pg lg := hSD.ok.2
  have hDN : DNS C pg lg := hSD.dns
  have w2 := hw.2.1
  have hL9 := hX.2.2.2
  refine v_aload_n (n := 478) k dL_law_477 rfl rfl ?_
  refine v_aload_n (n := 479) k dL_law_478 rfl rfl ?_
  refine v_iload (n := 481) k dL_law_479 rfl rfl ?_
  refine v_iconst (n := 482) k dL_law_481 rfl ?_
  refine v_iadd (n := 483) k dL_law_482 rfl ?_
  refine v_xald (n := 484) k hX (i + 1) (by omega) (by omega) dL_law_483 rfl ?_
  refine v_callL (n := 487) k kt hst9 [0, 1, 2, 3, 4, 5, 6, 7, 8, 9, 10, 11, 12, 13, 14, 15] (z_L_power (xI_in xs _) hdn) mw_power ml_L_75 (by decide) (by decide) rfl (by decide) rfl rfl (Nat.le_of_ble_eq_true rfl) ⟨by show _ ≤ 601024; omega, by show _ ≤ 7293034; omega⟩ dL_law_484 rfl ?_
  rintro v w1 (⟨rfl, ⟨rfl, hn1⟩, rfl⟩ | ⟨rfl, hor, rfl⟩)
  · dsimp only [wput, List.set, Option.toList, List.nil_append, List.cons_append]
    refine v_istore (n := 489) k dL_law_487 rfl (by decide) rfl rfl ?_
    refine v_aload_n (n := 490) k dL_law_489 rfl rfl ?_
    refine v_aload_n (n := 491) k dL_law_490 rfl rfl ?_
    refine v_iload (n := 493) k dL_law_491 rfl rfl ?_
    refine v_iconst (n := 494) k dL_law_493 rfl ?_
    refine v_iadd (n := 495) k dL_law_494 rfl ?_
    refine v_xald (n := 496) k hX (i + 1) (by omega) (by omega) dL_law_495 rfl ?_
    refine v_upV (n := 499) k [16] 16 (z_X5_power (xI_in xs _) hdn) miX5_power ml_L_78 (by decide) (by decide) rfl (by decide) rfl rfl rfl rfl (Nat.le_of_ble_eq_true rfl) (by rw [k.2.2.2.2.2.2.2.2]; exact ⟨by show _ ≤ 601024; omega, by show _ ≤ 7293034; omega⟩) dL_law_496 rfl ?_
    rintro _ _ ⟨rfl, rfl⟩
    have e1 : ¬ (0 : Int) = 1 := by decide
    rw [if_neg e1, if_neg e1, if_neg hn1, if_neg hn1]
    dsimp only [wput, List.set, Option.toList, List.nil_append, List.cons_append]
    refine v_aload_n (n := 500) k dL_law_499 rfl rfl ?_
    refine v_rdVi (n := 503) k [16] 16 (z_X5_thrown) miX5_thrown ml_L_51 (by decide) (by decide) rfl (by decide) rfl rfl rfl rfl (Nat.le_of_ble_eq_true rfl) (by rw [k.2.2.2.2.2.2.2.2]; exact ⟨by show _ ≤ 601024; omega, by show _ ≤ 7293034; omega⟩) dL_law_500 rfl ?_
    refine v_iload (n := 505) k dL_law_503 rfl rfl ?_
    refine v_icmpS (t := 510) k (rfl) dL_law_505 (by decide) ?_
    refine v_goto (t := 792) k dL_law_510 (by decide) ?_
    refine v_lvf [(0, .ref b), (1, .ref hx), (2, .ref hm), (3, .ref ho), (4, .int (iI ((i : Nat) : Int)))] ⟨rfl, rfl, rfl, rfl, rfl, trivial⟩ ?_
    exact hk9 pg lg (C, wt, xI xs (i + 1), 0) ko K fb fh fj fi tp T an An 0 Cm Dr En Ot Ib Bd Mn q Ou Cg ch O ⟨Or.inl ⟨hC, rfl, (hU rfl).2, (hU rfl).1⟩, hks, ⟨hA, xI_in xs _, hR, hGc⟩, htp, hT, han, hAn⟩
  · dsimp only [wput, List.set, Option.toList, List.nil_append, List.cons_append]
    refine v_istore (n := 489) k dL_law_487 rfl (by decide) rfl rfl ?_
    refine v_aload_n (n := 490) k dL_law_489 rfl rfl ?_
    refine v_aload_n (n := 491) k dL_law_490 rfl rfl ?_
    refine v_iload (n := 493) k dL_law_491 rfl rfl ?_
    refine v_iconst (n := 494) k dL_law_493 rfl ?_
    refine v_iadd (n := 495) k dL_law_494 rfl ?_
    refine v_xald (n := 496) k hX (i + 1) (by omega) (by omega) dL_law_495 rfl ?_
    refine v_upV (n := 499) k [16] 16 (z_X5_power (xI_in xs _) hdn) miX5_power ml_L_78 (by decide) (by decide) rfl (by decide) rfl rfl rfl rfl (Nat.le_of_ble_eq_true rfl) (by rw [k.2.2.2.2.2.2.2.2]; exact ⟨by show _ ≤ 601024; omega, by show _ ≤ 7293034; omega⟩) dL_law_496 rfl ?_
    rintro _ _ ⟨rfl, rfl⟩
    have eal : (if dn = 1 then al else if xI xs (i + 1) < -1 then al else xI xs (i + 1)) = al := by
      by_cases h1 : dn = 1
      · rw [if_pos h1]
      · rw [if_neg h1, if_pos (hor.resolve_left h1)]
    rw [eal]
    dsimp only [wput, List.set, Option.toList, List.nil_append, List.cons_append]
    refine v_aload_n (n := 500) k dL_law_499 rfl rfl ?_
    refine v_rdVi (n := 503) k [16] 16 (z_X5_thrown) miX5_thrown ml_L_51 (by decide) (by decide) rfl (by decide) rfl rfl rfl rfl (Nat.le_of_ble_eq_true rfl) (by rw [k.2.2.2.2.2.2.2.2]; exact ⟨by show _ ≤ 601024; omega, by show _ ≤ 7293034; omega⟩) dL_law_500 rfl ?_
    refine v_iload (n := 505) k dL_law_503 rfl rfl ?_
    refine v_icmpS (t := 510) k (by
  by_cases h1 : dn = 1
  · rw [if_pos h1, if_pos h1]
  · rw [if_neg h1, if_neg h1, if_pos (hor.resolve_left h1)]) dL_law_505 (by decide) ?_
    refine v_goto (t := 792) k dL_law_510 (by decide) ?_
    refine v_lvf [(0, .ref b), (1, .ref hx), (2, .ref hm), (3, .ref ho), (4, .int (iI ((i : Nat) : Int)))] ⟨rfl, rfl, rfl, rfl, rfl, trivial⟩ ?_
    exact hk9 pg lg (C, wt, al, dn) ko K fb fh fj fi tp T an An _ Cm Dr En Ot Ib Bd Mn q Ou Cg ch O hS
set_option maxHeartbeats 1000000 in
set_option maxRecDepth 20000 in
theorem st_law_7 {D : va_G} {cI cB cJ cZ : ClassId} {x : Kx} {A : Nat → Prop} {cells slots i L b : Nat} {xs : Nat → Int32} {hx hd hc hk hch hb hbb hh hhb ht htb ha hj hi hjb hib : Nat} {hm : Nat} {r : Nat → Nat} {ho : Nat} {pg lg : Nat} {C : Nat → Nat} {wt al dn ko : Int} {K fb fh fj fi : Nat → Nat} {tp : Nat} {T : Nat → Nat} {an : Nat} {An : Nat → Nat} {th : Int} {Cm Dr En Ot : Nat → Nat} {Ib : Nat → Bool} {Bd Mn : Nat → Nat} {q : RQ} {Ou Cg : Nat → Nat} {ch : Nat} {O : Nat → Int64} (k : Kf x cL_law 7 RL (some .boolean) D (TY cI cB cJ cZ) room_1) (kt : Kt A x.2.2.2.2.1 x.2.2.2.2.1.heap) (hst9 : x.2.1.stackTraces = false) (hX : SCR x A b L xs) (hi6 : i + 6 ≤ L) (hcs : cells + 1 ≤ 601024 ∧ slots + 6 ≤ 7293034) (hS : SI pg lg (C, wt, al, dn) ko K Cm Dr En Ib Bd Mn q Cg tp T an An) (hk9 : ∀ (pg lg : Nat) (a : DA) (ko : Int) (K fb fh fj fi : Nat → Nat) (tp : Nat) (T : Nat → Nat) (an : Nat) (An : Nat → Nat) (th : Int) (Cm Dr En Ot : Nat → Nat) (Ib : Nat → Bool) (Bd Mn : Nat → Nat) (q : RQ) (Ou Cg : Nat → Nat) (ch : Nat) (O : Nat → Int64), SI pg lg a ko K Cm Dr En Ib Bd Mn q Cg tp T an An → Vw x 7 A D true (cells + 1) (slots + 6) [oHash hx hd hch hb hh ht ha ((an : Nat) : Int), oDisk hd hc hk ko pg lg a.2.1 a.2.2.1 a.2.2.2, aN cI hc 65280 a.1, aN cI hk 255 K, oChange hch hd hj hi, oPage hb hbb, aN cI hbb 256 fb, oPage hh hhb, aN cI hhb 256 fh, oPage hj hjb, aN cI hjb 256 fj, oPage hi hib, aN cI hib 256 fi, oTape ht htb ((tp : Nat) : Int), aN cI htb 48 T, aN cI ha 32 An, oM hm r (th) (pg) (lg) (a.2.1) (a.2.2.1) (a.2.2.2) (a.1 0) (pF (a.1 0)) (tp) (an) (ch), aB cB (r 0) 65536 (Cm), aN cI (r 1) 256 (Dr), aN cI (r 2) 65536 (En), aN cI (r 3) 65536 (Ot), aZ cZ (r 4) 256 (Ib), aN cI (r 5) 256 (Bd), aN cI (r 6) 256 (Mn), aN cI (r 7) 23040 (q).1, aN cI (r 8) 23040 (q).2.1, aL cJ (r 9) 46080 (q).2.2.1, aL cJ (r 10) 92160 (q).2.2.2, aB cB (r 11) 48 (T), aB cB (r 12) 32 (An), aN cI (r 13) 256 (Ou), aN cI (r 14) 256 (Cg), aL cJ ho 1 O] 792 [(0, .ref b), (1, .ref hx), (2, .ref hm), (3, .ref ho), (4, .int (iI ((i : Nat) : Int)))] []) : Vw x 7 A D true cells slots [oHash hx hd hch hb hh ht ha ((an : Nat) : Int), oDisk hd hc hk ko pg lg wt al dn, aN cI hc 65280 C, aN cI hk 255 K, oChange hch hd hj hi, oPage hb hbb, aN cI hbb 256 fb, oPage hh hhb, aN cI hhb 256 fh, oPage hj hjb, aN cI hjb 256 fj, oPage hi hib, aN cI hib 256 fi, oTape ht htb ((tp : Nat) : Int), aN cI htb 48 T, aN cI ha 32 An, oM hm r (th) (pg) (lg) (wt) (al) (dn) (C 0) (pF (C 0)) (tp) (an) (ch), aB cB (r 0) 65536 (Cm), aN cI (r 1) 256 (Dr), aN cI (r 2) 65536 (En), aN cI (r 3) 65536 (Ot), aZ cZ (r 4) 256 (Ib), aN cI (r 5) 256 (Bd), aN cI (r 6) 256 (Mn), aN cI (r 7) 23040 (q).1, aN cI (r 8) 23040 (q).2.1, aL cJ (r 9) 46080 (q).2.2.1, aL cJ (r 10) 92160 (q).2.2.2, aB cB (r 11) 48 (T), aB cB (r 12) 32 (An), aN cI (r 13) 256 (Ou), aN cI (r 14) 256 (Cg), aL cJ ho 1 O] 513 [(0, .ref b), (1, .ref hx), (2, .ref hm), (3, .ref ho), (4, .int (iI ((i : Nat) : Int)))] [] := by
  obtain ⟨hSD, hks, hRI, htp, hT, han, hAn⟩ := id hS
  obtain ⟨hA, hal, hR, hGc⟩ := id hRI
  replace hA : AGP pg Cm C := hA
  replace hal : in32 al := hal
  replace hR : RM C lg Dr En Ib Bd Mn q := hR
  replace hks : KS ko K C pg lg := hks
  have hC : ∀ j, C j < 256 := hSD.bt
  have hdn : dn = 0 ∨ dn = 1 := hSD.dn
  have hda : dn = 0 ∨ (dn = 1 ∧ al = 0) := hSD.da
  have hU : dn = 0 → INV pg lg C := hSD.up
  have hw : DW C pg lg := hSD.ok.1
  have hE : EB C pg lg := hSD.ok.2
  have hDN : DNS C pg lg := hSD.dns
  have w2 := hw.2.1
  have hL9 := hX.2.2.2
  refine v_aload_n (n := 514) k dL_law_513 rfl rfl ?_
  refine v_aload_n (n := 515) k dL_law_514 rfl rfl ?_
  refine v_iload (n := 517) k dL_law_515 rfl rfl ?_
  refine v_iconst (n := 518) k dL_law_517 rfl ?_
  refine v_iadd (n := 519) k dL_law_518 rfl ?_
  refine v_xald (n := 520) k hX (i + 1) (by omega) (by omega) dL_law_519 rfl ?_
  refine v_aload_n (n := 521) k dL_law_520 rfl rfl ?_
  refine v_callL (n := 524) k kt hst9 [0, 1, 2, 3, 4, 5, 6, 7, 8, 9, 10, 11, 12, 13, 14, 15, 32] (z_L_recover (xI_in xs _) hDN hks) mw_recover ml_L_79 (by decide) (by decide) rfl (by decide) rfl rfl (Nat.le_of_ble_eq_true rfl) ⟨by show _ ≤ 601024; omega, by show _ ≤ 7293034; omega⟩ dL_law_521 rfl ?_
  rintro v w1 (⟨rfl, hn1, a9, s9, ko9, fj9, fi9, hF9, hks9, hal9, rfl⟩ | ⟨rfl, hn1, rfl⟩)
  · dsimp only [wput, List.set, Option.toList, List.nil_append, List.cons_append]
    refine v_istore (n := 526) k dL_law_524 rfl (by decide) rfl rfl ?_
    refine v_aload_n (n := 527) k dL_law_526 rfl rfl ?_
    refine v_aload_n (n := 528) k dL_law_527 rfl rfl ?_
    refine v_iload (n := 530) k dL_law_528 rfl rfl ?_
    refine v_iconst (n := 531) k dL_law_530 rfl ?_
    refine v_iadd (n := 532) k dL_law_531 rfl ?_
    refine v_xald (n := 533) k hX (i + 1) (by omega) (by omega) dL_law_532 rfl ?_
    refine v_upV (n := 536) k [16, 17, 18, 19, 21, 22, 23, 24, 25, 26, 27, 30, 31] 16 (z_X5_recover (xI_in xs _) hDN hC hRI) miX5_recover ml_L_81 (by decide) (by decide) rfl (by decide) rfl rfl rfl rfl (Nat.le_of_ble_eq_true rfl) (by rw [k.2.2.2.2.2.2.2.2]; exact ⟨by show _ ≤ 601024; omega, by show _ ≤ 7293034; omega⟩) dL_law_533 rfl ?_
    rintro _ _ ⟨a8, s8, Cm9, Ou9, Dr9, En9, Ib9, Bd9, Mn9, q9, hst, rfl, hI9, rfl⟩
    rw [if_neg hn1] at hst
    obtain ⟨h8, h7⟩ := Prod.mk.inj (hF9.symm.trans hst)
    subst h8
    subst h7
    dsimp only [wput, List.set, Option.toList, List.nil_append, List.cons_append]
    refine v_istore (n := 538) k dL_law_536 rfl (by decide) rfl rfl ?_
    refine v_aload_n (n := 539) k dL_law_538 rfl rfl ?_
    refine v_rdVi (n := 542) k [16] 16 (z_X5_thrown) miX5_thrown ml_L_51 (by decide) (by decide) rfl (by decide) rfl rfl rfl rfl (Nat.le_of_ble_eq_true rfl) (by rw [k.2.2.2.2.2.2.2.2]; exact ⟨by show _ ≤ 601024; omega, by show _ ≤ 7293034; omega⟩) dL_law_539 rfl ?_
    refine v_iload (n := 544) k dL_law_542 rfl rfl ?_
    refine v_icmpS (t := 549) k (by rw [if_neg hn1]) dL_law_544 (by decide) ?_
    refine v_iload (n := 551) k dL_law_549 rfl rfl ?_
    refine v_if_ne (n := 554) (t := 566) k (⟨by omega, by omega⟩) dL_law_551 (by decide) rfl (fun c_551 => ?_) (fun c_551 => ?_)
    · exfalso; omega
    · refine v_aload_n (n := 555) k dL_law_554 rfl rfl ?_
      refine v_iconst (n := 556) k dL_law_555 rfl ?_
      refine v_laldN (n := 557) k 32 2 (0) rfl rfl (by omega) (by omega) (by omega) dL_law_556 rfl ?_
      refine v_iload (n := 559) k dL_law_557 rfl rfl ?_
      refine v_i2l (n := 560) k dL_law_559 rfl ?_
      refine v_lcmpE (n := 561) k (rfl) dL_law_560 rfl ?_
      refine v_if_eq (n := 564) (t := 566) k (⟨by omega, by omega⟩) dL_law_561 (by decide) rfl (fun c_561 => ?_) (fun c_561 => ?_)
      · refine v_goto (t := 792) k dL_law_566 (by decide) ?_
        refine v_lvf [(0, .ref b), (1, .ref hx), (2, .ref hm), (3, .ref ho), (4, .int (iI ((i : Nat) : Int)))] ⟨rfl, rfl, rfl, rfl, rfl, trivial⟩ ?_
        exact hk9 pg lg a9 ko9 K fb fh fj9 fi9 tp T an An _ Cm9 Dr9 En9 Ot Ib9 Bd9 Mn9 q9 Ou9 Cg ch _ ⟨(rc_run hDN hC hF9).elim (fun z => Or.inl z.2) (fun z => Or.inr z.2), hks9, hI9, htp, hT, han, hAn⟩
      · exfalso; omega
  · dsimp only [wput, List.set, Option.toList, List.nil_append, List.cons_append]
    refine v_istore (n := 526) k dL_law_524 rfl (by decide) rfl rfl ?_
    refine v_aload_n (n := 527) k dL_law_526 rfl rfl ?_
    refine v_aload_n (n := 528) k dL_law_527 rfl rfl ?_
    refine v_iload (n := 530) k dL_law_528 rfl rfl ?_
    refine v_iconst (n := 531) k dL_law_530 rfl ?_
    refine v_iadd (n := 532) k dL_law_531 rfl ?_
    refine v_xald (n := 533) k hX (i + 1) (by omega) (by omega) dL_law_532 rfl ?_
    refine v_upV (n := 536) k [16, 17, 18, 19, 21, 22, 23, 24, 25, 26, 27, 30, 31] 16 (z_X5_recover (xI_in xs _) hDN hC hRI) miX5_recover ml_L_81 (by decide) (by decide) rfl (by decide) rfl rfl rfl rfl (Nat.le_of_ble_eq_true rfl) (by rw [k.2.2.2.2.2.2.2.2]; exact ⟨by show _ ≤ 601024; omega, by show _ ≤ 7293034; omega⟩) dL_law_533 rfl ?_
    rintro _ _ ⟨a8, s8, Cm9, Ou9, Dr9, En9, Ib9, Bd9, Mn9, q9, hst, rfl, hI9, rfl⟩
    rw [if_pos hn1] at hst
    cases hst
    dsimp only [wput, List.set, Option.toList, List.nil_append, List.cons_append]
    refine v_istore (n := 538) k dL_law_536 rfl (by decide) rfl rfl ?_
    refine v_aload_n (n := 539) k dL_law_538 rfl rfl ?_
    refine v_rdVi (n := 542) k [16] 16 (z_X5_thrown) miX5_thrown ml_L_51 (by decide) (by decide) rfl (by decide) rfl rfl rfl rfl (Nat.le_of_ble_eq_true rfl) (by rw [k.2.2.2.2.2.2.2.2]; exact ⟨by show _ ≤ 601024; omega, by show _ ≤ 7293034; omega⟩) dL_law_539 rfl ?_
    refine v_iload (n := 544) k dL_law_542 rfl rfl ?_
    refine v_icmpS (t := 549) k (by rw [if_pos hn1]) dL_law_544 (by decide) ?_
    refine v_iload (n := 551) k dL_law_549 rfl rfl ?_
    refine v_if_ne (n := 554) (t := 566) k (⟨by omega, by omega⟩) dL_law_551 (by decide) rfl (fun c_551 => ?_) (fun c_551 => ?_)
    · refine v_goto (t := 792) k dL_law_566 (by decide) ?_
      refine v_lvf [(0, .ref b), (1, .ref hx), (2, .ref hm), (3, .ref ho), (4, .int (iI ((i : Nat) : Int)))] ⟨rfl, rfl, rfl, rfl, rfl, trivial⟩ ?_
      exact hk9 pg lg (C, wt, al, dn) ko K fb fh fj fi tp T an An _ Cm9 Dr9 En9 Ot Ib9 Bd9 Mn9 q9 Ou9 Cg ch O ⟨hSD, hks, hI9, htp, hT, han, hAn⟩
    · exfalso; omega
