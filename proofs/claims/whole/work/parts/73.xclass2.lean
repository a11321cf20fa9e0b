set_option maxHeartbeats 1000000 in
set_option maxRecDepth 20000 in
theorem lp_X4_get {D : va_G} {cI cB cJ cZ : ClassId} {x : Kx} {hx hd hc hk hch hb hbb hh hhb ht htb ha hj hi hjb hib : Nat} {an ko : Int} {pg lg : Nat} {wt al dn : Int} {tp : Nat} {C K fb fh fj fi T An : Nat → Nat} {tp0 p s0 vs : Nat} (k : Kf x cX4_get 6 yX4_get.cls (some .int) D (TY cI cB cJ cZ) ({ frames := 8, cells := 1, slots := 6, locals := 150 })) {A : Nat → Prop} (hp9 : p < pg) (hg9 : pg ≤ 255) (hvs : vs ≤ 32) (hs9 : s0 + 2 + tp0 + vs ≤ 256) (hC9 : ∀ j, C j < 256) (hk9 : Vw x 6 A D true 0 0 [oHash hx hd hch hb hh ht ha an, oDisk hd hc hk ko pg lg wt al dn, aN cI hc 65280 C, aN cI hk 255 K, oChange hch hd hj hi, oPage hb hbb, aN cI hbb 256 fb, oPage hh hhb, aN cI hhb 256 fh, oPage hj hjb, aN cI hjb 256 fj, oPage hi hib, aN cI hib 256 fi, oTape ht htb ((tp : Nat) : Int), aN cI htb 48 T, aN cI ha 32 (lo (fun j => pb C p (s0 + 2 + tp0 + j)) An vs)] 145 [(0, .ref hx), (1, .int (iI ((tp0 : Nat) : Int))), (2, .int (iI ((p : Nat) : Int))), (3, .int (iI ((s0 : Nat) : Int))), (4, .int (iI ((vs : Nat) : Int))), (5, .int (iI ((vs : Nat) : Int)))] []) : ∀ (m : Nat) (j : Nat) (J : Int), vs < j + m → j ≤ vs → J = (j : Int) → Vw x 6 A D true 0 0 [oHash hx hd hch hb hh ht ha an, oDisk hd hc hk ko pg lg wt al dn, aN cI hc 65280 C, aN cI hk 255 K, oChange hch hd hj hi, oPage hb hbb, aN cI hbb 256 fb, oPage hh hhb, aN cI hhb 256 fh, oPage hj hjb, aN cI hjb 256 fj, oPage hi hib, aN cI hib 256 fi, oTape ht htb ((tp : Nat) : Int), aN cI htb 48 T, aN cI ha 32 (lo (fun j => pb C p (s0 + 2 + tp0 + j)) An j)] 99 [(0, .ref hx), (1, .int (iI ((tp0 : Nat) : Int))), (2, .int (iI ((p : Nat) : Int))), (3, .int (iI ((s0 : Nat) : Int))), (4, .int (iI ((vs : Nat) : Int))), (5, .int (iI J))] [] := by
  intro m
  induction m with
  | zero => intro j J hm9 hj9 e1; omega
  | succ m ih =>
    intro j J hm9 hj9 e1
    refine v_iload (n := 101) k dX4_get_99 rfl rfl ?_
    refine v_iload (n := 103) k dX4_get_101 rfl rfl ?_
    refine v_icmp_ge (n := 106) (t := 145) k (⟨by omega, by omega⟩) (⟨by omega, by omega⟩) dX4_get_103 (by decide) rfl (fun c_103 => ?_) (fun c_103 => ?_)
    · have e8 : j = vs := by omega
      rw [show J = ((vs : Nat) : Int) by omega, e8]
      exact hk9
    · refine v_iload (n := 108) k dX4_get_106 rfl rfl ?_
      refine v_aload_n (n := 109) k dX4_get_108 rfl rfl ?_
      refine v_get (n := 112) k ciX4 0 5 (by decide) fl_X4_42 rfl rfl dX4_get_109 rfl ?_
      refine v_alen (n := 113) k 15 0 rfl rfl dX4_get_112 rfl ?_
      refine v_icmp_ge (n := 116) (t := 145) k (⟨by omega, by omega⟩) (⟨by omega, by omega⟩) dX4_get_113 (by decide) rfl (fun c_113 => ?_) (fun c_113 => ?_)
      · exfalso; omega
      · refine v_aload_n (n := 117) k dX4_get_116 rfl rfl ?_
        refine v_get (n := 120) k ciX4 0 5 (by decide) fl_X4_42 rfl rfl dX4_get_117 rfl ?_
        refine v_iload (n := 122) k dX4_get_120 rfl rfl ?_
        refine v_aload_n (n := 123) k dX4_get_122 rfl rfl ?_
        refine v_get (n := 126) k ciX4 0 0 (by decide) fl_X4_10 rfl rfl dX4_get_123 rfl ?_
        refine v_iload_n (n := 127) k dX4_get_126 rfl rfl ?_
        refine v_iload_n (n := 128) k dX4_get_127 rfl rfl ?_
        refine v_iconst (n := 129) k dX4_get_128 rfl ?_
        refine v_iadd (n := 130) k dX4_get_129 rfl ?_
        refine v_iload_n (n := 131) k dX4_get_130 rfl rfl ?_
        refine v_iadd (n := 132) k dX4_get_131 rfl ?_
        refine v_iload (n := 134) k dX4_get_132 rfl rfl ?_
        refine v_iadd (n := 135) k dX4_get_134 rfl ?_
        refine v_rdVi (n := 138) k [1, 2] 1 (z_X1_at (p := p) (i := s0 + 2 + tp0 + j) rfl (by omega) hp9 (by omega) hg9) miX1_at ml_X4_130 (by decide) (by decide) rfl (by decide) rfl rfl rfl rfl (Nat.le_of_ble_eq_true rfl) ⟨Nat.zero_le _, Nat.zero_le _⟩ dX4_get_135 rfl ?_
        refine v_iastN (n := 139) k 15 0 (j) rfl rfl (by omega) (by omega) (by omega) (pb C p (s0 + 2 + tp0 + j)) (rfl) dX4_get_138 rfl ?_
        rw [lo_s (f := fun j => pb C p (s0 + 2 + tp0 + j)) rfl]
        refine v_iinc (n := 142) k dX4_get_139 rfl (by decide) rfl rfl rfl ?_
        refine v_goto (t := 99) k dX4_get_142 (by decide) ?_
        exact ih (j + 1) _ (by omega) (by omega) (by omega)
set_option maxHeartbeats 1000000 in
set_option maxRecDepth 20000 in
theorem z_X4_get {D : va_G} {cI cB cJ cZ : ClassId} {hx hd hc hk hch hb hbb hh hhb ht htb ha hj hi hjb hib : Nat} {an ko : Int} {pg lg : Nat} {wt al dn : Int} {tp : Nat} {C K fb fh fj fi T An : Nat → Nat}  (hdn : dn = 0 ∨ dn = 1) (hU : dn = 0 → INV pg lg C) (htp : tp ≤ 48) (hT : ∀ j, T j < 256) : ∀ l : Launch, l.stackTraces = false → Ux l yX4_get cX4_get 6 (some .int) ({ frames := 8, cells := 1, slots := 6, locals := 150 }) D (TY cI cB cJ cZ) [.ref hx] [oHash hx hd hch hb hh ht ha an, oDisk hd hc hk ko pg lg wt al dn, aN cI hc 65280 C, aN cI hk 255 K, oChange hch hd hj hi, oPage hb hbb, aN cI hbb 256 fb, oPage hh hhb, aN cI hhb 256 fh, oPage hj hjb, aN cI hjb 256 fj, oPage hi hib, aN cI hib 256 fi, oTape ht htb ((tp : Nat) : Int), aN cI htb 48 T, aN cI ha 32 An] (fun v w1 => dn = 0 ∧ v = some (.int (iI (gtV C T tp))) ∧ w1 = [oHash hx hd hch hb hh ht ha (((gtV C T tp).toNat : Nat) : Int), oDisk hd hc hk ko pg lg wt al 0, aN cI hc 65280 C, aN cI hk 255 K, oChange hch hd hj hi, oPage hb hbb, aN cI hbb 256 fb, oPage hh hhb, aN cI hhb 256 fh, oPage hj hjb, aN cI hjb 256 fj, oPage hi hib, aN cI hib 256 fi, oTape ht htb 0, aN cI htb 48 T, aN cI ha 32 (gtB C T tp An)]) (fun E w1 => E = xISE ∧ dn = 1 ∧ w1 = [oHash hx hd hch hb hh ht ha an, oDisk hd hc hk ko pg lg wt al dn, aN cI hc 65280 C, aN cI hk 255 K, oChange hch hd hj hi, oPage hb hbb, aN cI hbb 256 fb, oPage hh hhb, aN cI hhb 256 fh, oPage hj hjb, aN cI hjb 256 fj, oPage hi hib, aN cI hib 256 fi, oTape ht htb 0, aN cI htb 48 T, aN cI ha 32 An]) := by
  intro l hst9
  refine Ux_of hst9 (by decide) (Nat.le_of_ble_eq_true rfl) (fun x k hq ke => ?_)
  refine v_aload_n (n := 1) k dX4_get_0 rfl rfl ?_
  refine v_get (n := 4) k ciX4 0 4 (by decide) fl_X4_38 rfl rfl dX4_get_1 rfl ?_
  refine v_upV (n := 7) k [13] 13 (z_X3_take) miX3_take ml_X4_80 (by decide) (by decide) rfl (by decide) rfl rfl rfl rfl (Nat.le_of_ble_eq_true rfl) ⟨Nat.zero_le _, Nat.zero_le _⟩ dX4_get_4 rfl ?_
  rintro _ _ ⟨rfl, rfl⟩
  dsimp only [wput, List.set, Option.toList, List.nil_append, List.cons_append]
  refine v_istore_n (n := 8) k dX4_get_7 rfl (by decide) rfl rfl ?_
  refine v_aload_n (n := 9) k dX4_get_8 rfl rfl ?_
  refine v_get (n := 12) k ciX4 0 0 (by decide) fl_X4_10 rfl rfl dX4_get_9 rfl ?_
  refine v_rdVi (n := 15) k [1] 1 (z_X1_isDown hdn) miX1_isDown ml_X4_83 (by decide) (by decide) rfl (by decide) rfl rfl rfl rfl (Nat.le_of_ble_eq_true rfl) ⟨Nat.zero_le _, Nat.zero_le _⟩ dX4_get_12 rfl ?_
  refine v_if_eq (n := 18) (t := 28) k (⟨by omega, by omega⟩) dX4_get_15 (by decide) rfl (fun c_15 => ?_) (fun c_15 => ?_)
  · have hd0 : dn = 0 := by omega
    subst hd0
    refine v_aload_n (n := 29) k dX4_get_28 rfl rfl ?_
    refine v_iconst (n := 30) k dX4_get_29 rfl ?_
    refine v_put (n := 33) k ciX4 0 6 (by decide) fl_X4_46 rfl rfl (rfl) (rfl) (Nat.le_of_ble_eq_true rfl) dX4_get_30 rfl ?_
    refine v_iload_n (n := 34) k dX4_get_33 rfl rfl ?_
    refine v_iconst (n := 35) k dX4_get_34 rfl ?_
    refine v_icmp_lt (n := 38) (t := 44) k (⟨by omega, by omega⟩) (⟨by omega, by omega⟩) dX4_get_35 (by decide) rfl (fun c_35 => ?_) (fun c_35 => ?_)
    · have hgv : gtV C T tp = -1 := if_pos (by omega)
      have hgb : gtB C T tp An = An := if_pos (by omega)
      refine v_iconst (n := 45) k dX4_get_44 rfl ?_
      refine v_iretX k hq ?_ rfl dX4_get_45
      exact ⟨rfl, by rw [hgv], by rw [hgb, hgv]; rfl⟩
    · refine v_iload_n (n := 39) k dX4_get_38 rfl rfl ?_
      refine v_bipush (n := 41) k dX4_get_39 (by decide) rfl ?_
      refine v_icmp_le (n := 44) (t := 46) k (⟨by omega, by omega⟩) (⟨by omega, by omega⟩) dX4_get_41 (by decide) rfl (fun c_41 => ?_) (fun c_41 => ?_)
      · have hg1 : ¬ (tp < 1 ∨ 16 < tp) := by omega
        obtain ⟨hF, hj9⟩ := hU rfl
        obtain ⟨w1, w2, w3, w4, w5, w6, w7⟩ := id hF.1.1
        have hh9 := hsh_lt T 0 tp
        have hx9 := idx_lt (C := C) hh9 w4
        obtain ⟨p1, p2, p3, p4, p5⟩ := hF.2.1 _ hx9
        have hw252 := p4.2.2
        refine v_aload_n (n := 47) k dX4_get_46 rfl rfl ?_
        refine v_get (n := 50) k ciX4 0 0 (by decide) fl_X4_10 rfl rfl dX4_get_47 rfl ?_
        refine v_aload_n (n := 51) k dX4_get_50 rfl rfl ?_
        refine v_get (n := 54) k ciX4 0 4 (by decide) fl_X4_38 rfl rfl dX4_get_51 rfl ?_
        refine v_iload_n (n := 55) k dX4_get_54 rfl rfl ?_
        refine v_rdVi (n := 58) k [13, 14] 13 (z_X3_keyHash (z := tp) rfl htp) miX3_keyHash ml_X4_96 (by decide) (by decide) rfl (by decide) rfl rfl rfl rfl (Nat.le_of_ble_eq_true rfl) ⟨Nat.zero_le _, Nat.zero_le _⟩ dX4_get_55 rfl ?_
        refine v_rdVi (n := 61) k [1, 2] 1 (z_X1_bucketOf (h := hsh T 0 tp) hF.1.1 rfl hh9) miX1_bucketOf ml_X4_104 (by decide) (by decide) rfl (by decide) rfl rfl rfl rfl (Nat.le_of_ble_eq_true rfl) ⟨Nat.zero_le _, Nat.zero_le _⟩ dX4_get_58 rfl ?_
        refine v_istore_n (n := 62) k dX4_get_61 rfl (by decide) rfl rfl ?_
        refine v_aload_n (n := 63) k dX4_get_62 rfl rfl ?_
        refine v_get (n := 66) k ciX4 0 0 (by decide) fl_X4_10 rfl rfl dX4_get_63 rfl ?_
        refine v_iload_n (n := 67) k dX4_get_66 rfl rfl ?_
        refine v_aload_n (n := 68) k dX4_get_67 rfl rfl ?_
        refine v_get (n := 71) k ciX4 0 4 (by decide) fl_X4_38 rfl rfl dX4_get_68 rfl ?_
        refine v_iload_n (n := 72) k dX4_get_71 rfl rfl ?_
        refine v_rdVi (n := 75) k [1, 2, 13, 14] 1 (z_X1_find (p := entN C (idx C (hsh T 0 tp))) (z := tp) rfl p2 w2 rfl htp p4 w3 hT) miX1_find ml_X4_112 (by decide) (by decide) rfl (by decide) rfl rfl rfl rfl (Nat.le_of_ble_eq_true rfl) ⟨Nat.zero_le _, Nat.zero_le _⟩ dX4_get_72 rfl ?_
        have hfi : (∃ r9, fnd C (entN C (idx C (hsh T 0 tp))) T tp = some r9 ∧ fndI C (entN C (idx C (hsh T 0 tp))) T tp = ((rst C (entN C (idx C (hsh T 0 tp))) r9 : Nat) : Int)) ∨ (fnd C (entN C (idx C (hsh T 0 tp))) T tp = none ∧ fndI C (entN C (idx C (hsh T 0 tp))) T tp = -1) := by
          unfold fndI
          cases hq9 : fnd C (entN C (idx C (hsh T 0 tp))) T tp with
          | some z => exact Or.inl ⟨z, rfl, rfl⟩
          | none => exact Or.inr ⟨rfl, rfl⟩
        have hfb := fndI_in (T := T) (ks := tp) p4
        generalize fndI C (entN C (idx C (hsh T 0 tp))) T tp = Y at hfi hfb ⊢
        refine v_istore_n (n := 76) k dX4_get_75 rfl (by decide) rfl rfl ?_
        refine v_iload_n (n := 77) k dX4_get_76 rfl rfl ?_
        refine v_iconst (n := 78) k dX4_get_77 rfl ?_
        refine v_icmp_ne (n := 81) (t := 83) k (hfb) (⟨by decide, by decide⟩) dX4_get_78 (by decide) rfl (fun c_78 => ?_) (fun c_78 => ?_)
        · obtain ⟨r9, hr9, hY⟩ : ∃ r9, fnd C (entN C (idx C (hsh T 0 tp))) T tp = some r9 ∧ Y = ((rst C (entN C (idx C (hsh T 0 tp))) r9 : Nat) : Int) := by
            rcases hfi with h9 | ⟨-, h9⟩
            · exact h9
            · exact absurd h9 c_78
          subst hY
          clear hfi
          obtain ⟨hrl, hrk⟩ := fnd_k hr9
          have hvs := (p4.1 r9 hrl).2.2
          have hft := (p4.fit hrl).2
          unfold rsz at hft
          rw [hrk] at hft
          have hgv : gtV C T tp = ((pb C (entN C (idx C (hsh T 0 tp))) (rst C (entN C (idx C (hsh T 0 tp))) r9 + 1) : Nat) : Int) := by
            unfold gtV
            rw [if_neg hg1, hr9]
          have hgb : gtB C T tp An = lo (fun j => pb C (entN C (idx C (hsh T 0 tp))) (rst C (entN C (idx C (hsh T 0 tp))) r9 + 2 + tp + j)) An (pb C (entN C (idx C (hsh T 0 tp))) (rst C (entN C (idx C (hsh T 0 tp))) r9 + 1)) := by
            unfold gtB
            rw [if_neg hg1, hr9]
          refine v_aload_n (n := 84) k dX4_get_83 rfl rfl ?_
          refine v_get (n := 87) k ciX4 0 0 (by decide) fl_X4_10 rfl rfl dX4_get_84 rfl ?_
          refine v_iload_n (n := 88) k dX4_get_87 rfl rfl ?_
          refine v_iload_n (n := 89) k dX4_get_88 rfl rfl ?_
          refine v_iconst (n := 90) k dX4_get_89 rfl ?_
          refine v_iadd (n := 91) k dX4_get_90 rfl ?_
          refine v_rdVi (n := 94) k [1, 2] 1 (z_X1_at (p := entN C (idx C (hsh T 0 tp))) (i := rst C (entN C (idx C (hsh T 0 tp))) r9 + 1) rfl (by omega) p2 (by omega) w2) miX1_at ml_X4_130 (by decide) (by decide) rfl (by decide) rfl rfl rfl rfl (Nat.le_of_ble_eq_true rfl) ⟨Nat.zero_le _, Nat.zero_le _⟩ dX4_get_91 rfl ?_
          refine v_istore (n := 96) k dX4_get_94 rfl (by decide) rfl rfl ?_
          refine v_iconst (n := 97) k dX4_get_96 rfl ?_
          refine v_istore (n := 99) k dX4_get_97 rfl (by decide) rfl rfl ?_
          have e0 := lo_0 (fun j => pb C (entN C (idx C (hsh T 0 tp))) (rst C (entN C (idx C (hsh T 0 tp))) r9 + 2 + tp + j)) An
          refine v_ws (ws' := [oHash hx hd hch hb hh ht ha 0, oDisk hd hc hk ko pg lg wt al 0, aN cI hc 65280 C, aN cI hk 255 K, oChange hch hd hj hi, oPage hb hbb, aN cI hbb 256 fb, oPage hh hhb, aN cI hhb 256 fh, oPage hj hjb, aN cI hjb 256 fj, oPage hi hib, aN cI hib 256 fi, oTape ht htb ((0 : Nat) : Int), aN cI htb 48 T, aN cI ha 32 (lo (fun j => pb C (entN C (idx C (hsh T 0 tp))) (rst C (entN C (idx C (hsh T 0 tp))) r9 + 2 + tp + j)) An 0)]) (by rw [e0]; rfl) ?_
          refine lp_X4_get (tp := 0) (tp0 := tp) (p := entN C (idx C (hsh T 0 tp))) (s0 := rst C (entN C (idx C (hsh T 0 tp))) r9) (vs := pb C (entN C (idx C (hsh T 0 tp))) (rst C (entN C (idx C (hsh T 0 tp))) r9 + 1)) k p2 w2 hvs (by omega) w3 ?_ (pb C (entN C (idx C (hsh T 0 tp))) (rst C (entN C (idx C (hsh T 0 tp))) r9 + 1) + 1) 0 _ (by omega) (by omega) rfl
          refine v_aload_n (n := 146) k dX4_get_145 rfl rfl ?_
          refine v_iload (n := 148) k dX4_get_146 rfl rfl ?_
          refine v_put (n := 151) k ciX4 0 6 (by decide) fl_X4_46 rfl rfl (rfl) (rfl) (Nat.le_of_ble_eq_true rfl) dX4_get_148 rfl ?_
          refine v_aload_n (n := 152) k dX4_get_151 rfl rfl ?_
          refine v_get (n := 155) k ciX4 0 6 (by decide) fl_X4_46 rfl rfl dX4_get_152 rfl ?_
          refine v_iretX k hq ?_ rfl dX4_get_155
          exact ⟨rfl, by rw [hgv], by rw [hgb, hgv]; rfl⟩
        · have hfn : fnd C (entN C (idx C (hsh T 0 tp))) T tp = none := by
            rcases hfi with ⟨r9, -, h9⟩ | ⟨h9, -⟩
            · omega
            · exact h9
          have hgv : gtV C T tp = -1 := by
            unfold gtV
            rw [if_neg hg1, hfn]
          have hgb : gtB C T tp An = An := by
            unfold gtB
            rw [if_neg hg1, hfn]
          refine v_iconst (n := 82) k dX4_get_81 rfl ?_
          refine v_iretX k hq ?_ rfl dX4_get_82
          exact ⟨rfl, by rw [hgv], by rw [hgb, hgv]; rfl⟩
      · have hgv : gtV C T tp = -1 := if_pos (by omega)
        have hgb : gtB C T tp An = An := if_pos (by omega)
        refine v_iconst (n := 45) k dX4_get_44 rfl ?_
        refine v_iretX k hq ?_ rfl dX4_get_45
        exact ⟨rfl, by rw [hgv], by rw [hgb, hgv]; rfl⟩
  · refine v_throwX (is := 89) k hq ke th_ISE (List.mem_of_getElem? (i := 5) rfl) ⟨by decide, by decide, by decide, by decide⟩ ?_ rfl dX4_get_18 dX4_get_21 dX4_get_22 dX4_get_24 dX4_get_27
    exact ⟨rfl, by omega, rfl⟩
theorem st_in {C : Nat → Nat} {wt al dn : Int} {pg lg h : Nat} {s9 : Int} {a9 : DA} (e : sSt (C, wt, al, dn) pg lg h = (s9, a9)) : s9 = 0 ∨ s9 = 1 ∨ s9 = 2 ∨ s9 = 3 ∨ s9 = 4 := by
  unfold sSt at e
  split at e
  · unfold sRes at e
    split at e
    · cases e; exact Or.inr (Or.inl rfl)
    · split at e
      · cases e; exact Or.inr (Or.inr (Or.inl rfl))
      · split at e
        · cases e; exact Or.inl rfl
        · cases e; exact Or.inr (Or.inr (Or.inr (Or.inr rfl)))
  · unfold sSpl at e
    split at e
    · cases e; exact Or.inr (Or.inl rfl)
    · split at e
      · cases e; exact Or.inr (Or.inr (Or.inl rfl))
      · split at e
        · cases e; exact Or.inl rfl
        · cases e; exact Or.inr (Or.inr (Or.inr (Or.inr rfl)))
theorem mp_run' {pg lg h : Nat} {T : Nat → Nat} {ks z : Nat} (hh : h < 65536) : ∀ (n : Nat) {C : Nat → Nat} {wt al dn : Int} {s2 : Int} {a2 : DA}, INV pg lg C → sMP pg lg h T ks z n (C, wt, al, dn) = (s2, a2) → (s2 = 0 ∨ s2 = 1 ∨ s2 = 2 ∨ s2 = 3 ∨ s2 = 4) ∧ (s2 = 0 → INV pg lg a2.1 ∧ plc a2.1 (entN a2.1 (idx a2.1 h)) T ks z = true) := by
  intro n
  induction n with
  | zero =>
    intro C wt al dn s2 a2 hI e
    cases e
    exact ⟨Or.inr (Or.inl rfl), fun h9 => absurd h9 (by decide)⟩
  | succ n ih =>
    intro C wt al dn s2 a2 hI e
    rw [mp_s] at e
    by_cases h1 : plc C (entN C (idx C h)) T ks z = true
    · have e' : ((0 : Int), ((C, wt, al, dn) : DA)) = (s2, a2) := (if_pos h1).symm.trans e
      cases e'
      exact ⟨Or.inl rfl, fun _ => ⟨hI, h1⟩⟩
    · have e1 := (if_neg h1).symm.trans e
      by_cases h2 : allH C (entN C (idx C h)) h = true
      · have e' : ((3 : Int), ((C, wt, al, dn) : DA)) = (s2, a2) := (if_pos h2).symm.trans e1
        cases e'
        exact ⟨Or.inr (Or.inr (Or.inr (Or.inl rfl))), fun h9 => absurd h9 (by decide)⟩
      · have e2 := (if_neg h2).symm.trans e1
        cases e3 : sSt (C, wt, al, dn) pg lg h with
        | mk s9 a9 =>
          rw [e3] at e2
          by_cases h3 : s9 = 0
          · subst h3
            have e4 : sMP pg lg h T ks z n a9 = (s2, a2) := (if_pos rfl).symm.trans e2
            obtain ⟨C9, wt9, al9, dn9⟩ := a9
            exact ih (st_inv hI hh e3) e4
          · have e4 : (s9, a9) = (s2, a2) := (if_neg h3).symm.trans e2
            cases e4
            exact ⟨st_in e3, fun h9 => absurd h9 h3⟩
theorem mp_run {pg lg h n : Nat} {T : Nat → Nat} {ks z : Nat} {C : Nat → Nat} {wt al dn : Int} {s2 : Int} {a2 : DA} (hI : INV pg lg C) (hh : h < 65536) (e : sMP pg lg h T ks z n (C, wt, al, dn) = (s2, a2)) : (s2 = 0 ∨ s2 = 1 ∨ s2 = 2 ∨ s2 = 3 ∨ s2 = 4) ∧ (s2 = 0 → INV pg lg a2.1 ∧ plc a2.1 (entN a2.1 (idx a2.1 h)) T ks z = true) := mp_run' hh n hI e
set_option maxHeartbeats 1000000 in
set_option maxRecDepth 20000 in
theorem z_X4_put {D : va_G} {cI cB cJ cZ : ClassId} {hx hd hc hk hch hb hbb hh hhb ht htb ha hj hi hjb hib : Nat} {an ko : Int} {pg lg : Nat} {wt al dn : Int} {tp : Nat} {C K fb fh fj fi T An : Nat → Nat} {KK : Int} (hKK : in32 KK) (hdn : dn = 0 ∨ dn = 1) (hU : dn = 0 → INV pg lg C) (htp : tp ≤ 48) (hT : ∀ j, T j < 256) (hks : KS ko K C pg lg) (hal : in32 al) : ∀ l : Launch, l.stackTraces = false → Ux l yX4_put cX4_put 5 (some .int) ({ frames := 8, cells := 1, slots := 6, locals := 190 }) D (TY cI cB cJ cZ) [.ref hx, .int (iI KK)] [oHash hx hd hch hb hh ht ha an, oDisk hd hc hk ko pg lg wt al dn, aN cI hc 65280 C, aN cI hk 255 K, oChange hch hd hj hi, oPage hb hbb, aN cI hbb 256 fb, oPage hh hhb, aN cI hhb 256 fh, oPage hj hjb, aN cI hjb 256 fj, oPage hi hib, aN cI hib 256 fi, oTape ht htb ((tp : Nat) : Int), aN cI htb 48 T, aN cI ha 32 An] (fun v w1 => puT dn KK tp = 0 ∧ ∃ (a9 : DA) (s9 ko9 : Int) (K9 fb9 fh9 fj9 fi9 : Nat → Nat), pfF pg lg T KK.toNat tp (C, wt, al, 0) = (s9, a9) ∧ v = some (.int (iI s9)) ∧ KS ko9 K9 a9.1 pg lg ∧ in32 a9.2.2.1 ∧ w1 = [oHash hx hd hch hb hh ht ha an, oDisk hd hc hk ko9 pg lg a9.2.1 a9.2.2.1 a9.2.2.2, aN cI hc 65280 a9.1, aN cI hk 255 K9, oChange hch hd hj hi, oPage hb hbb, aN cI hbb 256 fb9, oPage hh hhb, aN cI hhb 256 fh9, oPage hj hjb, aN cI hjb 256 fj9, oPage hi hib, aN cI hib 256 fi9, oTape ht htb 0, aN cI htb 48 T, aN cI ha 32 An]) (fun E w1 => ((E = xISE ∧ puT dn KK tp = 1) ∨ (E = xIAE ∧ puT dn KK tp = 2)) ∧ w1 = [oHash hx hd hch hb hh ht ha an, oDisk hd hc hk ko pg lg wt al dn, aN cI hc 65280 C, aN cI hk 255 K, oChange hch hd hj hi, oPage hb hbb, aN cI hbb 256 fb, oPage hh hhb, aN cI hhb 256 fh, oPage hj hjb, aN cI hjb 256 fj, oPage hi hib, aN cI hib 256 fi, oTape ht htb 0, aN cI htb 48 T, aN cI ha 32 An]) := by
  intro l hst9
  refine Ux_of hst9 (by decide) (Nat.le_of_ble_eq_true rfl) (fun x k hq ke => ?_)
  obtain ⟨hi1, hi2⟩ := id hKK
  refine v_aload_n (n := 1) k dX4_put_0 rfl rfl ?_
  refine v_get (n := 4) k ciX4 0 4 (by decide) fl_X4_38 rfl rfl dX4_put_1 rfl ?_
  refine v_upV (n := 7) k [13] 13 (z_X3_take) miX3_take ml_X4_80 (by decide) (by decide) rfl (by decide) rfl rfl rfl rfl (Nat.le_of_ble_eq_true rfl) ⟨Nat.zero_le _, Nat.zero_le _⟩ dX4_put_4 rfl ?_
  rintro _ _ ⟨rfl, rfl⟩
  dsimp only [wput, List.set, Option.toList, List.nil_append, List.cons_append]
  refine v_istore_n (n := 8) k dX4_put_7 rfl (by decide) rfl rfl ?_
  refine v_aload_n (n := 9) k dX4_put_8 rfl rfl ?_
  refine v_get (n := 12) k ciX4 0 0 (by decide) fl_X4_10 rfl rfl dX4_put_9 rfl ?_
  refine v_rdVi (n := 15) k [1] 1 (z_X1_isDown hdn) miX1_isDown ml_X4_83 (by decide) (by decide) rfl (by decide) rfl rfl rfl rfl (Nat.le_of_ble_eq_true rfl) ⟨Nat.zero_le _, Nat.zero_le _⟩ dX4_put_12 rfl ?_
  refine v_if_eq (n := 18) (t := 28) k (⟨by omega, by omega⟩) dX4_put_15 (by decide) rfl (fun c_15 => ?_) (fun c_15 => ?_)
  · have hd0 : dn = 0 := by omega
    subst hd0
    refine v_iload_n (n := 29) k dX4_put_28 rfl rfl ?_
    refine v_iconst (n := 30) k dX4_put_29 rfl ?_
    refine v_icmp_lt (n := 33) (t := 44) k (⟨by omega, by omega⟩) (⟨by omega, by omega⟩) dX4_put_30 (by decide) rfl (fun c_30 => ?_) (fun c_30 => ?_)
    · refine v_throwX (is := 92) k hq ke th_IAE (List.mem_of_getElem? (i := 6) rfl) ⟨by decide, by decide, by decide, by decide⟩ ?_ rfl dX4_put_44 dX4_put_47 dX4_put_48 dX4_put_50 dX4_put_53
      exact ⟨Or.inr ⟨rfl, (if_neg (by decide)).trans (if_pos (by omega))⟩, rfl⟩
    · refine v_iload_n (n := 34) k dX4_put_33 rfl rfl ?_
      refine v_bipush (n := 36) k dX4_put_34 (by decide) rfl ?_
      refine v_icmp_gt (n := 39) (t := 44) k (⟨by omega, by omega⟩) (⟨by omega, by omega⟩) dX4_put_36 (by decide) rfl (fun c_36 => ?_) (fun c_36 => ?_)
      · refine v_throwX (is := 92) k hq ke th_IAE (List.mem_of_getElem? (i := 6) rfl) ⟨by decide, by decide, by decide, by decide⟩ ?_ rfl dX4_put_44 dX4_put_47 dX4_put_48 dX4_put_50 dX4_put_53
        exact ⟨Or.inr ⟨rfl, (if_neg (by decide)).trans (if_pos (by omega))⟩, rfl⟩
      · refine v_iload_n (n := 40) k dX4_put_39 rfl rfl ?_
        refine v_iload_n (n := 41) k dX4_put_40 rfl rfl ?_
        refine v_icmp_le (n := 44) (t := 54) k (⟨by omega, by omega⟩) (⟨by omega, by omega⟩) dX4_put_41 (by decide) rfl (fun c_41 => ?_) (fun c_41 => ?_)
        · refine v_iload_n (n := 55) k dX4_put_54 rfl rfl ?_
          refine v_iload_n (n := 56) k dX4_put_55 rfl rfl ?_
          refine v_isub (n := 57) k dX4_put_56 rfl ?_
          refine v_bipush (n := 59) k dX4_put_57 (by decide) rfl ?_
          refine v_icmp_le (n := 62) (t := 72) k (⟨by omega, by omega⟩) (⟨by omega, by omega⟩) dX4_put_59 (by decide) rfl (fun c_59 => ?_) (fun c_59 => ?_)
          · have ht9 : puT 0 KK tp = 0 := (if_neg (by decide)).trans (if_neg (by omega))
            obtain ⟨ks, hks9⟩ : ∃ ks : Nat, KK = (ks : Int) := ⟨KK.toNat, by omega⟩
            subst hks9
            obtain ⟨hF, hj9⟩ := hU rfl
            obtain ⟨w1, w2, w3, w4, w5, w6, w7⟩ := id hF.1.1
            have hh9 := hsh_lt T 0 ks
            have hx9 := idx_lt (C := C) hh9 w4
            obtain ⟨p1, p2, p3, p4, p5⟩ := hF.2.1 _ hx9
            have hw252 := p4.2.2
            refine v_aload_n (n := 73) k dX4_put_72 rfl rfl ?_
            refine v_get (n := 76) k ciX4 0 4 (by decide) fl_X4_38 rfl rfl dX4_put_73 rfl ?_
            refine v_iload_n (n := 77) k dX4_put_76 rfl rfl ?_
            refine v_rdVi (n := 80) k [13, 14] 13 (z_X3_keyHash (z := ks) rfl (by omega)) miX3_keyHash ml_X4_96 (by decide) (by decide) rfl (by decide) rfl rfl rfl rfl (Nat.le_of_ble_eq_true rfl) ⟨Nat.zero_le _, Nat.zero_le _⟩ dX4_put_77 rfl ?_
            refine v_istore_n (n := 81) k dX4_put_80 rfl (by decide) rfl rfl ?_
            refine v_aload_n (n := 82) k dX4_put_81 rfl rfl ?_
            refine v_iload_n (n := 83) k dX4_put_82 rfl rfl ?_
            refine v_iload_n (n := 84) k dX4_put_83 rfl rfl ?_
            refine v_iload_n (n := 85) k dX4_put_84 rfl rfl ?_
            refine v_upV (n := 88) k [0, 1, 2, 3, 4, 5, 6, 7, 8, 9, 10, 11, 12, 13, 14] 0 (z_X4_makePlace (h := hsh T 0 ks) (ks := ks) (z := tp) (INV := INV pg lg) rfl hh9 rfl (by omega) rfl htp hT (fun C9 h9 => h9.1.eok) (fun C9 wt9 al9 dn9 C8 wt8 al8 dn8 h9 e9 => st_inv h9 hh9 e9) ⟨hF, hj9⟩ hks hal) miX4_makePlace ml_X4_100 (by decide) (by decide) rfl (by decide) rfl rfl rfl rfl (Nat.le_of_ble_eq_true rfl) ⟨Nat.zero_le _, Nat.zero_le _⟩ dX4_put_85 rfl ?_
            rintro _ _ ⟨s2, C2, wt2, al2, dn2, ko2, K2, fb2, fh2, fj2, fi2, hmp, hks2, hal2, rfl, rfl⟩
            dsimp only [wput, List.set, Option.toList, List.nil_append, List.cons_append]
            obtain ⟨hs5, hs0⟩ := mp_run (wt := wt) (al := al) ⟨hF, hj9⟩ hh9 hmp
            have hs32 : in32 s2 := by rcases hs5 with h | h | h | h | h <;> (rw [h]; exact ⟨by decide, by decide⟩)
            refine v_istore (n := 90) k dX4_put_88 rfl (by decide) rfl rfl ?_
            refine v_iload (n := 92) k dX4_put_90 rfl rfl ?_
            refine v_if_ne (n := 95) (t := 112) k (hs32) dX4_put_92 (by decide) rfl (fun c_92 => ?_) (fun c_92 => ?_)
            · have hz : s2 ≠ 0 := by omega
              refine v_iload (n := 114) k dX4_put_112 rfl rfl ?_
              refine v_iretX k hq ?_ rfl dX4_put_114
              exact ⟨ht9, (C2, wt2, al2, dn2), s2, ko2, K2, fb2, fh2, fj2, fi2, pf_s hmp hz, rfl, hks2, hal2, rfl⟩
            · have hz : s2 = 0 := by omega
              subst hz
              obtain ⟨⟨hF2, hj2⟩, hpl⟩ := hs0 rfl
              obtain ⟨q1, q2, q3, q4, q5⟩ := hF2.2.1 _ (idx_lt (C := C2) hh9 hF2.1.1.2.2.2.1)
              refine v_aload_n (n := 96) k dX4_put_95 rfl rfl ?_
              refine v_aload_n (n := 97) k dX4_put_96 rfl rfl ?_
              refine v_get (n := 100) k ciX4 0 0 (by decide) fl_X4_10 rfl rfl dX4_put_97 rfl ?_
              refine v_iload_n (n := 101) k dX4_put_100 rfl rfl ?_
              refine v_rdVi (n := 104) k [1, 2] 1 (z_X1_bucketOf (h := hsh T 0 ks) hF2.1.1 rfl hh9) miX1_bucketOf ml_X4_104 (by decide) (by decide) rfl (by decide) rfl rfl rfl rfl (Nat.le_of_ble_eq_true rfl) ⟨Nat.zero_le _, Nat.zero_le _⟩ dX4_put_101 rfl ?_
              refine v_iload_n (n := 105) k dX4_put_104 rfl rfl ?_
              refine v_iload_n (n := 106) k dX4_put_105 rfl rfl ?_
              refine v_upV (n := 109) k [0, 1, 2, 3, 5, 6, 13, 14] 0 (z_X4_storeRecord (p := entN C2 (idx C2 (hsh T 0 ks))) (ks := ks) (z := tp) rfl q2 w2 q4 hF2.1.1.2.2.1 rfl (by omega) rfl htp hT hpl hal2 hks2) miX4_storeRecord ml_X4_107 (by decide) (by decide) rfl (by decide) rfl rfl rfl rfl (Nat.le_of_ble_eq_true rfl) ⟨Nat.zero_le _, Nat.zero_le _⟩ dX4_put_106 rfl ?_
              rintro _ _ ⟨b9, C9, wt9, al9, dn9, ko9, fb9, hsw, hks9, hal9, rfl, rfl⟩
              dsimp only [wput, List.set, Option.toList, List.nil_append, List.cons_append]
              refine v_goto (t := 114) k dX4_put_109 (by decide) ?_
              refine v_iretX k hq ?_ rfl dX4_put_114
              refine ⟨ht9, (C9, wt9, al9, dn9), _, ko9, K2, fb9, fh2, fj2, fi2, (pf_0 hmp).trans ?_, rfl, hks9, hal9, rfl⟩
              show stC (sW (C2, wt2, al2, dn2) (entN C2 (idx C2 (hsh T 0 ks))) (newB C2 (entN C2 (idx C2 (hsh T 0 ks))) T ks tp)) = _
              rw [hsw]
              cases b9 <;> rfl
          · refine v_throwX (is := 94) k hq ke th_IAE (List.mem_of_getElem? (i := 7) rfl) ⟨by decide, by decide, by decide, by decide⟩ ?_ rfl dX4_put_62 dX4_put_65 dX4_put_66 dX4_put_68 dX4_put_71
            exact ⟨Or.inr ⟨rfl, (if_neg (by decide)).trans (if_pos (by omega))⟩, rfl⟩
        · refine v_throwX (is := 92) k hq ke th_IAE (List.mem_of_getElem? (i := 6) rfl) ⟨by decide, by decide, by decide, by decide⟩ ?_ rfl dX4_put_44 dX4_put_47 dX4_put_48 dX4_put_50 dX4_put_53
          exact ⟨Or.inr ⟨rfl, (if_neg (by decide)).trans (if_pos (by omega))⟩, rfl⟩
  · refine v_throwX (is := 89) k hq ke th_ISE (List.mem_of_getElem? (i := 5) rfl) ⟨by decide, by decide, by decide, by decide⟩ ?_ rfl dX4_put_18 dX4_put_21 dX4_put_22 dX4_put_24 dX4_put_27
    exact ⟨Or.inl ⟨rfl, if_pos (by omega)⟩, rfl⟩
