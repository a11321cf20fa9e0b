theorem blk_le {x k d : Nat} (hx : x < 2 ^ d) (hk : k ≤ d) : x / 2 ^ k * 2 ^ k + 2 ^ k ≤ 2 ^ d := by
  have e1 : 2 ^ d = 2 ^ (d - k) * 2 ^ k := by rw [← Nat.pow_add]; congr 1; omega
  have h2 : x / 2 ^ k < 2 ^ (d - k) := Nat.div_lt_of_lt_mul (by rw [Nat.mul_comm, ← e1]; exact hx)
  rw [e1, ← Nat.succ_mul]
  exact Nat.mul_le_mul_right _ h2
/-- the page that can be merged with the bucket of a hash -/
def mpN (C : Nat → Nat) (h : Nat) : Option Nat :=
  if pb C (entN C (idx C h)) 0 = 0 then none else
  if pb C (entN C (idx C h ^^^ 2 ^ (C 0 - pb C (entN C (idx C h)) 0))) 0 = pb C (entN C (idx C h)) 0 ∧ bL C (entN C (idx C h)) + bL C (entN C (idx C h ^^^ 2 ^ (C 0 - pb C (entN C (idx C h)) 0))) ≤ 126 then some (entN C (idx C h ^^^ 2 ^ (C 0 - pb C (entN C (idx C h)) 0))) else none
def mpI (C : Nat → Nat) (h : Nat) : Int := match mpN C h with
  | some q => (q : Int)
  | none => -1
/-- whether the bucket of hash h, of depth e, has the 0 in place e - 1 -/
def mgB (C : Nat → Nat) (h e : Nat) : Bool := idx C h &&& 2 ^ (C 0 - e) == 0
def mgF (C : Nat → Nat) (h e : Nat) : Nat := (idx C h ||| 2 ^ (C 0 - e)) / 2 ^ (C 0 - e) * 2 ^ (C 0 - e)
/-- all records of a page -/
def allL (C : Nat → Nat) (p : Nat) : List (List Nat) := recS C p (notAt C p (-1)) (pb C p 1)
/-- the CHANGE of a MERGE of the buckets p and o, of depth e, that of the first one being kept -/
def mgC (C : Nat → Nat) (e kp lf a b : Nat) : List (Nat × (Nat → Nat)) := (kp, bpg (e - 1) (allL C kp ++ allL C lf)) :: rtL C a b kp (dpO a b) (a / 256)
def sMrg (a : DA) (lg h o : Nat) : Int × DA :=
  if lg < 1 + dpO (mgF a.1 h (pb a.1 (entN a.1 (idx a.1 h)) 0)) (mgF a.1 h (pb a.1 (entN a.1 (idx a.1 h)) 0) + 2 ^ (a.1 0 - pb a.1 (entN a.1 (idx a.1 h)) 0)) then (2, a) else
  stC (sChg a (mgC a.1 (pb a.1 (entN a.1 (idx a.1 h)) 0) (if mgB a.1 h (pb a.1 (entN a.1 (idx a.1 h)) 0) then entN a.1 (idx a.1 h) else o) (if mgB a.1 h (pb a.1 (entN a.1 (idx a.1 h)) 0) then o else entN a.1 (idx a.1 h)) (mgF a.1 h (pb a.1 (entN a.1 (idx a.1 h)) 0)) (mgF a.1 h (pb a.1 (entN a.1 (idx a.1 h)) 0) + 2 ^ (a.1 0 - pb a.1 (entN a.1 (idx a.1 h)) 0))))
theorem allL_len {C : Nat → Nat} {p : Nat} (hb : WB C p) : (allL C p).flatten.length = bL C p ∧ (allL C p).length ≤ pb C p 1 := by
  have h1 := recS_all (C := C) (p := p) (sel := notAt C p (-1)) (notAt_none (by omega)) (pb C p 1)
  have h2 := hb.2.1
  unfold allL
  exact ⟨by omega, recS_len _ _ _ _⟩
theorem two_lt {C : Nat → Nat} {d p q : Nat} (hC : ∀ j, C j < 256) (hd : d < 256) (hp : WB C p) (hq : WB C q) (hL : bL C p + bL C q ≤ 126) : ∀ j, bpg d (allL C p ++ allL C q) j < 256 := by
  have h1 := allL_len hp
  have h2 := allL_len hq
  have h3 := hp.count
  have h4 := hq.count
  refine bpg_lt hd (by rw [List.length_append]; omega) (by rw [List.flatten_append, List.length_append]; omega) ?_
  intro r hr
  rcases List.mem_append.mp hr with h | h
  · exact recS_lt hC r h
  · exact recS_lt hC r h
set_option maxHeartbeats 1000000 in
set_option maxRecDepth 20000 in
theorem z_X4_mergePartner {D : va_G} {cI cB cJ cZ : ClassId} {hx hd hc hk hch hb hbb hh ht ha : Nat} {an : Int} {ko : Int} {pg lg : Nat} {wt al dn : Int} {C : Nat → Nat} {H : Int} {h : Nat} (hw : DW C pg lg) (hH : H = (h : Int)) (hh9 : h < 65536) (hE : ∀ i, i < 2 ^ C 0 → entN C i < pg) (he : pb C (entN C (idx C h)) 0 ≤ C 0) : ∀ l, Rd l yX4_mergePartner cX4_mergePartner 5 (some .int) ({ frames := 4, cells := 0, slots := 0, locals := 85 }) D (TY cI cB cJ cZ) [.ref hx, .int (iI H)] [oHash hx hd hch hb hh ht ha an, oDisk hd hc hk ko pg lg wt al dn, aN cI hc 65280 C] (fun v => v = some (.int (iI (mpI C h)))) := by
  intro l
  refine Rd_of (by decide) (Nat.le_of_ble_eq_true rfl) (fun x k hq => ?_)
  obtain ⟨w1, w2, w3, w4, w5, w6, w7⟩ := id hw
  have hi9 := idx_lt (C := C) hh9 w4
  have h15 : 2 ^ C 0 ≤ 32768 := Nat.le_trans (Nat.pow_le_pow_right (n := 2) (j := 15) (by decide) w4) (by decide)
  have hpp := hE _ hi9
  refine v_aload_n (n := 1) k dX4_mergePartner_0 rfl rfl ?_
  refine v_get (n := 4) k ciX4 0 0 (by decide) fl_X4_10 rfl rfl dX4_mergePartner_1 rfl ?_
  refine v_iload_n (n := 5) k dX4_mergePartner_4 rfl rfl ?_
  refine v_rdVi (n := 8) k [1, 2] 1 (z_X1_bucketOf hw (h := h) hH hh9) miX1_bucketOf ml_X4_104 (by decide) (by decide) rfl (by decide) rfl rfl rfl rfl (Nat.le_of_ble_eq_true rfl) ⟨Nat.zero_le _, Nat.zero_le _⟩ dX4_mergePartner_5 rfl ?_
  refine v_istore_n (n := 9) k dX4_mergePartner_8 rfl (by decide) rfl rfl ?_
  refine v_aload_n (n := 10) k dX4_mergePartner_9 rfl rfl ?_
  refine v_get (n := 13) k ciX4 0 0 (by decide) fl_X4_10 rfl rfl dX4_mergePartner_10 rfl ?_
  refine v_iload_n (n := 14) k dX4_mergePartner_13 rfl rfl ?_
  refine v_iconst (n := 15) k dX4_mergePartner_14 rfl ?_
  refine v_rdVi (n := 18) k [1, 2] 1 (z_X1_at (p := entN C (idx C h)) (i := 0) rfl rfl hpp (by omega) w2) miX1_at ml_X4_130 (by decide) (by decide) rfl (by decide) rfl rfl rfl rfl (Nat.le_of_ble_eq_true rfl) ⟨Nat.zero_le _, Nat.zero_le _⟩ dX4_mergePartner_15 rfl ?_
  refine v_istore_n (n := 19) k dX4_mergePartner_18 rfl (by decide) rfl rfl ?_
  refine v_iload_n (n := 20) k dX4_mergePartner_19 rfl rfl ?_
  refine v_if_gt (n := 23) (t := 25) k (⟨by omega, by omega⟩) dX4_mergePartner_20 (by decide) rfl (fun c_20 => ?_) (fun c_20 => ?_)
  · have hxl : idx C h ^^^ 2 ^ (C 0 - pb C (entN C (idx C h)) 0) < 2 ^ C 0 := Nat.xor_lt_two_pow hi9 (Nat.pow_lt_pow_right (by decide) (by omega))
    have hsp : 2 ^ (C 0 - pb C (entN C (idx C h)) 0) ≤ 2 ^ C 0 := Nat.pow_le_pow_right (by decide) (by omega)
    refine v_aload_n (n := 26) k dX4_mergePartner_25 rfl rfl ?_
    refine v_get (n := 29) k ciX4 0 0 (by decide) fl_X4_10 rfl rfl dX4_mergePartner_26 rfl ?_
    refine v_aload_n (n := 30) k dX4_mergePartner_29 rfl rfl ?_
    refine v_get (n := 33) k ciX4 0 0 (by decide) fl_X4_10 rfl rfl dX4_mergePartner_30 rfl ?_
    refine v_iload_n (n := 34) k dX4_mergePartner_33 rfl rfl ?_
    refine v_rdVi (n := 37) k [1, 2] 1 (z_X1_indexOf hw (h := h) hH hh9) miX1_indexOf ml_X4_234 (by decide) (by decide) rfl (by decide) rfl rfl rfl rfl (Nat.le_of_ble_eq_true rfl) ⟨Nat.zero_le _, Nat.zero_le _⟩ dX4_mergePartner_34 rfl ?_
    refine v_iconst (n := 38) k dX4_mergePartner_37 rfl ?_
    refine v_aload_n (n := 39) k dX4_mergePartner_38 rfl rfl ?_
    refine v_get (n := 42) k ciX4 0 0 (by decide) fl_X4_10 rfl rfl dX4_mergePartner_39 rfl ?_
    refine v_rdVi (n := 45) k [1, 2] 1 (z_X1_depth hw) miX1_depth ml_X4_160 (by decide) (by decide) rfl (by decide) rfl rfl rfl rfl (Nat.le_of_ble_eq_true rfl) ⟨Nat.zero_le _, Nat.zero_le _⟩ dX4_mergePartner_42 rfl ?_
    refine v_iload_n (n := 46) k dX4_mergePartner_45 rfl rfl ?_
    refine v_isub (n := 47) k dX4_mergePartner_46 rfl ?_
    refine v_ishl (n := 48) k (((1 * 2 ^ (C 0 - pb C (entN C (idx C h)) 0) : Nat) : Int)) (ax_shl rfl (by omega) (by omega) (by omega)) dX4_mergePartner_47 rfl ?_
    refine v_ixor (n := 49) k (((idx C h ^^^ 2 ^ (C 0 - pb C (entN C (idx C h)) 0) : Nat) : Int)) (by rw [Nat.one_mul]; exact ax_xor _ _) dX4_mergePartner_48 rfl ?_
    refine v_rdVi (n := 52) k [1, 2] 1 (z_X1_entryAt hw (i := idx C h ^^^ 2 ^ (C 0 - pb C (entN C (idx C h)) 0)) rfl hxl) miX1_entryAt ml_X4_145 (by decide) (by decide) rfl (by decide) rfl rfl rfl rfl (Nat.le_of_ble_eq_true rfl) ⟨Nat.zero_le _, Nat.zero_le _⟩ dX4_mergePartner_49 rfl ?_
    refine v_istore (n := 54) k dX4_mergePartner_52 rfl (by decide) rfl rfl ?_
    refine v_aload_n (n := 55) k dX4_mergePartner_54 rfl rfl ?_
    refine v_get (n := 58) k ciX4 0 0 (by decide) fl_X4_10 rfl rfl dX4_mergePartner_55 rfl ?_
    refine v_iload (n := 60) k dX4_mergePartner_58 rfl rfl ?_
    refine v_iconst (n := 61) k dX4_mergePartner_60 rfl ?_
    refine v_rdVi (n := 64) k [1, 2] 1 (z_X1_at (p := entN C (idx C h ^^^ 2 ^ (C 0 - pb C (entN C (idx C h)) 0))) (i := 0) rfl rfl (hE _ hxl) (by omega) w2) miX1_at ml_X4_130 (by decide) (by decide) rfl (by decide) rfl rfl rfl rfl (Nat.le_of_ble_eq_true rfl) ⟨Nat.zero_le _, Nat.zero_le _⟩ dX4_mergePartner_61 rfl ?_
    have hb1 : pb C (entN C (idx C h ^^^ 2 ^ (C 0 - pb C (entN C (idx C h)) 0))) 0 < 256 := w3 _
    refine v_iload_n (n := 65) k dX4_mergePartner_64 rfl rfl ?_
    refine v_icmp_ne (n := 68) (t := 91) k (⟨by omega, by omega⟩) (⟨by omega, by omega⟩) dX4_mergePartner_65 (by decide) rfl (fun c_65 => ?_) (fun c_65 => ?_)
    · refine v_iconst (n := 92) k dX4_mergePartner_91 rfl ?_
      refine v_iretR k hq ?_ dX4_mergePartner_92
      rw [mpI, show mpN C h = none from by unfold mpN; rw [if_neg (by omega), if_neg (by omega)]]
    · have hb2 : bL C (entN C (idx C h)) < 65536 := by
        have h1 := w3 (entN C (idx C h) * 256 + 2)
        have h2 := w3 (entN C (idx C h) * 256 + 3)
        unfold bL pb
        omega
      have hb3 : bL C (entN C (idx C h ^^^ 2 ^ (C 0 - pb C (entN C (idx C h)) 0))) < 65536 := by
        have h1 := w3 ((entN C (idx C h ^^^ 2 ^ (C 0 - pb C (entN C (idx C h)) 0))) * 256 + 2)
        have h2 := w3 ((entN C (idx C h ^^^ 2 ^ (C 0 - pb C (entN C (idx C h)) 0))) * 256 + 3)
        unfold bL pb at *
        omega
      refine v_aload_n (n := 69) k dX4_mergePartner_68 rfl rfl ?_
      refine v_get (n := 72) k ciX4 0 0 (by decide) fl_X4_10 rfl rfl dX4_mergePartner_69 rfl ?_
      refine v_iload_n (n := 73) k dX4_mergePartner_72 rfl rfl ?_
      refine v_rdVi (n := 76) k [1, 2] 1 (z_X1_recordBytes (p := entN C (idx C h)) rfl hpp w2) miX1_recordBytes ml_X4_148 (by decide) (by decide) rfl (by decide) rfl rfl rfl rfl (Nat.le_of_ble_eq_true rfl) ⟨Nat.zero_le _, Nat.zero_le _⟩ dX4_mergePartner_73 rfl ?_
      refine v_aload_n (n := 77) k dX4_mergePartner_76 rfl rfl ?_
      refine v_get (n := 80) k ciX4 0 0 (by decide) fl_X4_10 rfl rfl dX4_mergePartner_77 rfl ?_
      refine v_iload (n := 82) k dX4_mergePartner_80 rfl rfl ?_
      refine v_rdVi (n := 85) k [1, 2] 1 (z_X1_recordBytes (p := entN C (idx C h ^^^ 2 ^ (C 0 - pb C (entN C (idx C h)) 0))) rfl (hE _ hxl) w2) miX1_recordBytes ml_X4_148 (by decide) (by decide) rfl (by decide) rfl rfl rfl rfl (Nat.le_of_ble_eq_true rfl) ⟨Nat.zero_le _, Nat.zero_le _⟩ dX4_mergePartner_82 rfl ?_
      refine v_iadd (n := 86) k dX4_mergePartner_85 rfl ?_
      refine v_bipush (n := 88) k dX4_mergePartner_86 (by decide) rfl ?_
      refine v_icmp_le (n := 91) (t := 93) k (⟨by omega, by omega⟩) (⟨by omega, by omega⟩) dX4_mergePartner_88 (by decide) rfl (fun c_88 => ?_) (fun c_88 => ?_)
      · refine v_iload (n := 95) k dX4_mergePartner_93 rfl rfl ?_
        refine v_iretR k hq ?_ dX4_mergePartner_95
        rw [mpI, show mpN C h = some (entN C (idx C h ^^^ 2 ^ (C 0 - pb C (entN C (idx C h)) 0))) from by unfold mpN; rw [if_neg (by omega), if_pos ⟨by omega, by omega⟩]]
      · refine v_iconst (n := 92) k dX4_mergePartner_91 rfl ?_
        refine v_iretR k hq ?_ dX4_mergePartner_92
        rw [mpI, show mpN C h = none from by unfold mpN; rw [if_neg (by omega), if_neg (by omega)]]
  · refine v_iconst (n := 24) k dX4_mergePartner_23 rfl ?_
    refine v_iretR k hq ?_ dX4_mergePartner_24
    rw [mpI, show mpN C h = none from by unfold mpN; rw [if_pos (by omega)]]
set_option maxHeartbeats 1000000 in
set_option maxRecDepth 20000 in
theorem z_X4_merge {D : va_G} {cI cB cJ cZ : ClassId} {hx hd hc hk hch hb hbb hh ht ha hj hi hjb hib : Nat} {an : Int} {pg lg : Nat} {O H : Int} {o h : Nat} {C : Nat → Nat} {wt al dn ko : Int} {K fb fj fi : Nat → Nat} (hw : DW C pg lg) (hlp : lg + 4 ≤ pg) (hO : O = (o : Int)) (ho1 : lg + 2 ≤ o) (ho2 : o < pg) (hH : H = (h : Int)) (hh9 : h < 65536) (hp1 : lg + 2 ≤ entN C (idx C h)) (hp2 : entN C (idx C h) < pg) (hbp : WB C (entN C (idx C h))) (hbo : WB C o) (he1 : 1 ≤ pb C (entN C (idx C h)) 0) (he2 : pb C (entN C (idx C h)) 0 ≤ C 0) (hL : bL C (entN C (idx C h)) + bL C o ≤ 126) (hks : KS ko K C pg lg) (hal : in32 al) : ∀ l, Up l yX4_merge cX4_merge 11 (some .int) ({ frames := 5, cells := 0, slots := 0, locals := 135 }) D (TY cI cB cJ cZ) [.ref hx, .int (iI H), .int (iI O)] [oHash hx hd hch hb hh ht ha an, oDisk hd hc hk ko pg lg wt al dn, aN cI hc 65280 C, aN cI hk 255 K, oChange hch hd hj hi, oPage hb hbb, aN cI hbb 256 (fb), oPage hj hjb, aN cI hjb 256 (fj), oPage hi hib, aN cI hib 256 (fi)] (fun r w1 => ∃ s2 C2 wt2 al2 dn2 ko2 fb fj fi, sMrg (C, wt, al, dn) lg h o = (s2, C2, wt2, al2, dn2) ∧ KS ko2 K C2 pg lg ∧ in32 al2 ∧ r = some (.int (iI s2)) ∧ w1 = [oHash hx hd hch hb hh ht ha an, oDisk hd hc hk ko2 pg lg wt2 al2 dn2, aN cI hc 65280 C2, aN cI hk 255 K, oChange hch hd hj hi, oPage hb hbb, aN cI hbb 256 (fb), oPage hj hjb, aN cI hjb 256 (fj), oPage hi hib, aN cI hib 256 (fi)]) := by
  intro l
  refine Up_of (by decide) (Nat.le_of_ble_eq_true rfl) (fun x k hq => ?_)
  obtain ⟨w1, w2, w3, w4, w5, w6, w7⟩ := id hw
  have hi9 := idx_lt (C := C) hh9 w4
  have h15 : 2 ^ C 0 ≤ 32768 := Nat.le_trans (Nat.pow_le_pow_right (n := 2) (j := 15) (by decide) w4) (by decide)
  obtain ⟨p, hgp⟩ : ∃ z, entN C (idx C h) = z := ⟨_, rfl⟩
  obtain ⟨e, hge⟩ : ∃ z, pb C p 0 = z := ⟨_, rfl⟩
  obtain ⟨ix, hgi⟩ : ∃ z, idx C h = z := ⟨_, rfl⟩
  obtain ⟨sp, hgs⟩ : ∃ z, 2 ^ (C 0 - e) = z := ⟨_, rfl⟩
  obtain ⟨fr, hgf⟩ : ∃ z, mgF C h e = z := ⟨_, rfl⟩
  rw [hgp] at hp1 hp2 hbp he1 he2 hL
  rw [hge] at he1 he2
  have hsp : sp ≤ 2 ^ C 0 := by rw [← hgs]; exact Nat.pow_le_pow_right (by decide) (by omega)
  have hsp0 : 0 < sp := by rw [← hgs]; exact Nat.two_pow_pos _
  have hor : ix ||| sp < 2 ^ C 0 := by
    rw [← hgs, ← hgi]
    exact Nat.or_lt_two_pow hi9 (Nat.pow_lt_pow_right (by decide) (by omega))
  have hfe : fr = (ix ||| sp) / sp * sp := by rw [← hgf, ← hgs, ← hgi]; rfl
  have hfl : fr + sp ≤ 2 ^ C 0 := by
    rw [hfe, ← hgs]
    exact blk_le (by rw [hgs]; exact hor) (by omega)
  have hpFi : (fr + sp - 1) / 256 < pF (C 0) := pF_idx (by omega)
  have h8 := pF_lt w4
  have h1p := allL_len hbp
  have h1o := allL_len hbo
  have h3p := hbp.count
  have h3o := hbo.count
  rw [hgi] at hi9
  have hmg : ∀ kp lf : Nat, (ix &&& sp = 0 ∧ kp = p ∧ lf = o) ∨ (ix &&& sp ≠ 0 ∧ kp = o ∧ lf = p) → ¬ lg < 1 + dpO fr (fr + sp) → sMrg (C, wt, al, dn) lg h o = stC (sChg (C, wt, al, dn) ((kp, bpg (e - 1) (allL C kp ++ allL C lf)) :: rtL C fr (fr + sp) kp (dpO fr (fr + sp)) (fr / 256))) := by
    intro kp lf hk hnl
    show (if lg < 1 + dpO (mgF C h (pb C (entN C (idx C h)) 0)) (mgF C h (pb C (entN C (idx C h)) 0) + 2 ^ (C 0 - pb C (entN C (idx C h)) 0)) then _ else stC (sChg (C, wt, al, dn) (mgC C (pb C (entN C (idx C h)) 0) (if mgB C h (pb C (entN C (idx C h)) 0) then entN C (idx C h) else o) (if mgB C h (pb C (entN C (idx C h)) 0) then o else entN C (idx C h)) (mgF C h (pb C (entN C (idx C h)) 0)) (mgF C h (pb C (entN C (idx C h)) 0) + 2 ^ (C 0 - pb C (entN C (idx C h)) 0))))) = _
    rw [hgp, hge, hgs, hgf, if_neg hnl]
    have hB : mgB C h e = (ix &&& sp == 0) := by unfold mgB; rw [hgi, hgs]
    rcases hk with ⟨h1, rfl, rfl⟩ | ⟨h1, rfl, rfl⟩
    · rw [hB, h1]; rfl
    · have : (ix &&& sp == 0) = false := beq_false_of_ne h1
      rw [hB, this]; rfl
  refine v_aload_n (n := 1) k dX4_merge_0 rfl rfl ?_
  refine v_get (n := 4) k ciX4 0 0 (by decide) fl_X4_10 rfl rfl dX4_merge_1 rfl ?_
  refine v_iload_n (n := 5) k dX4_merge_4 rfl rfl ?_
  refine v_rdVi (n := 8) k [1, 2] 1 (z_X1_bucketOf hw (h := h) hH hh9) miX1_bucketOf ml_X4_104 (by decide) (by decide) rfl (by decide) rfl rfl rfl rfl (Nat.le_of_ble_eq_true rfl) ⟨Nat.zero_le _, Nat.zero_le _⟩ dX4_merge_5 rfl ?_
  rw [hgp]
  refine v_istore_n (n := 9) k dX4_merge_8 rfl (by decide) rfl rfl ?_
  refine v_aload_n (n := 10) k dX4_merge_9 rfl rfl ?_
  refine v_get (n := 13) k ciX4 0 0 (by decide) fl_X4_10 rfl rfl dX4_merge_10 rfl ?_
  refine v_iload_n (n := 14) k dX4_merge_13 rfl rfl ?_
  refine v_iconst (n := 15) k dX4_merge_14 rfl ?_
  refine v_rdVi (n := 18) k [1, 2] 1 (z_X1_at (p := p) (i := 0) rfl rfl hp2 (by omega) w2) miX1_at ml_X4_130 (by decide) (by decide) rfl (by decide) rfl rfl rfl rfl (Nat.le_of_ble_eq_true rfl) ⟨Nat.zero_le _, Nat.zero_le _⟩ dX4_merge_15 rfl ?_
  rw [hge]
  refine v_istore (n := 20) k dX4_merge_18 rfl (by decide) rfl rfl ?_
  refine v_iconst (n := 21) k dX4_merge_20 rfl ?_
  refine v_aload_n (n := 22) k dX4_merge_21 rfl rfl ?_
  refine v_get (n := 25) k ciX4 0 0 (by decide) fl_X4_10 rfl rfl dX4_merge_22 rfl ?_
  refine v_rdVi (n := 28) k [1, 2] 1 (z_X1_depth hw) miX1_depth ml_X4_160 (by decide) (by decide) rfl (by decide) rfl rfl rfl rfl (Nat.le_of_ble_eq_true rfl) ⟨Nat.zero_le _, Nat.zero_le _⟩ dX4_merge_25 rfl ?_
  refine v_iload (n := 30) k dX4_merge_28 rfl rfl ?_
  refine v_isub (n := 31) k dX4_merge_30 rfl ?_
  refine v_ishl (n := 32) k (((sp : Nat) : Int)) (by rw [← hgs, ← Nat.one_mul (2 ^ (C 0 - e))]; exact ax_shl rfl (by omega) (by omega) (by omega)) dX4_merge_31 rfl ?_
  refine v_istore (n := 34) k dX4_merge_32 rfl (by decide) rfl rfl ?_
  refine v_aload_n (n := 35) k dX4_merge_34 rfl rfl ?_
  refine v_get (n := 38) k ciX4 0 0 (by decide) fl_X4_10 rfl rfl dX4_merge_35 rfl ?_
  refine v_iload_n (n := 39) k dX4_merge_38 rfl rfl ?_
  refine v_rdVi (n := 42) k [1, 2] 1 (z_X1_indexOf hw (h := h) hH hh9) miX1_indexOf ml_X4_234 (by decide) (by decide) rfl (by decide) rfl rfl rfl rfl (Nat.le_of_ble_eq_true rfl) ⟨Nat.zero_le _, Nat.zero_le _⟩ dX4_merge_39 rfl ?_
  rw [hgi]
  refine v_istore (n := 44) k dX4_merge_42 rfl (by decide) rfl rfl ?_
  refine v_iload (n := 46) k dX4_merge_44 rfl rfl ?_
  refine v_iload (n := 48) k dX4_merge_46 rfl rfl ?_
  refine v_iand (n := 49) k (((ix &&& sp : Nat) : Int)) (ax_and _ _) dX4_merge_48 rfl ?_
  have hal9 : ix &&& sp ≤ ix := Nat.and_le_left
  refine v_if_ne (n := 52) (t := 56) k (⟨by omega, by omega⟩) dX4_merge_49 (by decide) rfl (fun c_49 => ?_) (fun c_49 => ?_)
  · have hz0 : ix &&& sp ≠ 0 := by omega
    refine v_iconst (n := 57) k dX4_merge_56 rfl ?_
    refine v_istore (n := 59) k dX4_merge_57 rfl (by decide) rfl rfl ?_
    refine v_iload (n := 61) k dX4_merge_59 rfl rfl ?_
    refine v_if_eq (n := 64) (t := 68) k (⟨by omega, by omega⟩) dX4_merge_61 (by decide) rfl (fun c_61 => ?_) (fun c_61 => ?_)
    · refine v_iload_n (n := 69) k dX4_merge_68 rfl rfl ?_
      refine v_istore (n := 71) k dX4_merge_69 rfl (by decide) rfl rfl ?_
      refine v_iload (n := 73) k dX4_merge_71 rfl rfl ?_
      refine v_if_eq (n := 76) (t := 80) k (⟨by omega, by omega⟩) dX4_merge_73 (by decide) rfl (fun c_73 => ?_) (fun c_73 => ?_)
      · refine v_iload_n (n := 81) k dX4_merge_80 rfl rfl ?_
        refine v_istore (n := 83) k dX4_merge_81 rfl (by decide) rfl rfl ?_
        refine v_iload (n := 85) k dX4_merge_83 rfl rfl ?_
        refine v_iload (n := 87) k dX4_merge_85 rfl rfl ?_
        refine v_ior (n := 88) k (((ix ||| sp : Nat) : Int)) (ax_or _ _) dX4_merge_87 rfl ?_
        refine v_iload (n := 90) k dX4_merge_88 rfl rfl ?_
        refine v_ineg (n := 91) k dX4_merge_90 rfl ?_
        refine v_iand (n := 92) k (((fr : Nat) : Int)) (by rw [hfe, ← hgs]; exact ax_negmask rfl rfl (by rw [hgs]; omega) (by omega)) dX4_merge_91 rfl ?_
        refine v_istore (n := 94) k dX4_merge_92 rfl (by decide) rfl rfl ?_
        refine v_iconst (n := 95) k dX4_merge_94 rfl ?_
        refine v_iload (n := 97) k dX4_merge_95 rfl rfl ?_
        refine v_iload (n := 99) k dX4_merge_97 rfl rfl ?_
        refine v_iload (n := 101) k dX4_merge_99 rfl rfl ?_
        refine v_iadd (n := 102) k dX4_merge_101 rfl ?_
        refine v_rdSi (n := 105) k [] (z_X4_directoryPagesOf (a := fr) (b := fr + sp) rfl rfl (by omega) (by omega)) miX4_directoryPagesOf ml_X4_237 (by decide) (by decide) rfl (by decide) rfl rfl (Nat.le_of_ble_eq_true rfl) ⟨Nat.zero_le _, Nat.zero_le _⟩ dX4_merge_102 rfl ?_
        refine v_iadd (n := 106) k dX4_merge_105 rfl ?_
        refine v_aload_n (n := 107) k dX4_merge_106 rfl rfl ?_
        refine v_get (n := 110) k ciX4 0 0 (by decide) fl_X4_10 rfl rfl dX4_merge_107 rfl ?_
        refine v_rdVi (n := 113) k [1] 1 (z_X1_log) miX1_log ml_X4_157 (by decide) (by decide) rfl (by decide) rfl rfl rfl rfl (Nat.le_of_ble_eq_true rfl) ⟨Nat.zero_le _, Nat.zero_le _⟩ dX4_merge_110 rfl ?_
        refine v_icmp_le (n := 116) (t := 118) k (⟨by omega, by omega⟩) (⟨by omega, by omega⟩) dX4_merge_113 (by decide) rfl (fun c_113 => ?_) (fun c_113 => ?_)
        · refine v_aload_n (n := 119) k dX4_merge_118 rfl rfl ?_
          refine v_get (n := 122) k ciX4 0 1 (by decide) fl_X4_21 rfl rfl dX4_merge_119 rfl ?_
          refine v_upV (n := 125) k [4, 7, 8] 4 (z_X0_begin) miX0_begin ml_X4_209 (by decide) (by decide) rfl (by decide) rfl rfl rfl rfl (Nat.le_of_ble_eq_true rfl) ⟨Nat.zero_le _, Nat.zero_le _⟩ dX4_merge_122 rfl ?_
          rintro _ _ ⟨rfl, rfl⟩
          dsimp only [wput, List.set, Option.toList, List.nil_append, List.cons_append]
          refine v_aload_n (n := 126) k dX4_merge_125 rfl rfl ?_
          refine v_get (n := 129) k ciX4 0 2 (by decide) fl_X4_28 rfl rfl dX4_merge_126 rfl ?_
          refine v_iload (n := 131) k dX4_merge_129 rfl rfl ?_
          refine v_iconst (n := 132) k dX4_merge_131 rfl ?_
          refine v_isub (n := 133) k dX4_merge_132 rfl ?_
          refine v_upV (n := 136) k [5, 6] 5 (z_X2_startBucket (v := e - 1) (by omega)) miX2_startBucket ml_X4_196 (by decide) (by decide) rfl (by decide) rfl rfl rfl rfl (Nat.le_of_ble_eq_true rfl) ⟨Nat.zero_le _, Nat.zero_le _⟩ dX4_merge_133 rfl ?_
          rw [bpg_0 (by omega)]
          rintro _ _ ⟨rfl, rfl⟩
          dsimp only [wput, List.set, Option.toList, List.nil_append, List.cons_append]
          refine v_aload_n (n := 137) k dX4_merge_136 rfl rfl ?_
          refine v_iload (n := 139) k dX4_merge_137 rfl rfl ?_
          refine v_iconst (n := 140) k dX4_merge_139 rfl ?_
          refine v_upV (n := 143) k [0, 1, 2, 5, 6] 0 (z_X4_addRecordsBut (p := o) (d := e - 1) (rs := []) hO ho2 w2 hbo w3 ⟨by omega, by omega⟩ (by simp; omega) (by simp; omega)) miX4_addRecordsBut ml_X4_199 (by decide) (by decide) rfl (by decide) rfl rfl rfl rfl (Nat.le_of_ble_eq_true rfl) ⟨Nat.zero_le _, Nat.zero_le _⟩ dX4_merge_140 rfl ?_
          rw [List.nil_append, show recS C o (notAt C o (-1)) (pb C o 1) = allL C o from rfl]
          rintro _ _ ⟨rfl, rfl⟩
          dsimp only [wput, List.set, Option.toList, List.nil_append, List.cons_append]
          refine v_aload_n (n := 144) k dX4_merge_143 rfl rfl ?_
          refine v_iload (n := 146) k dX4_merge_144 rfl rfl ?_
          refine v_iconst (n := 147) k dX4_merge_146 rfl ?_
          refine v_upV (n := 150) k [0, 1, 2, 5, 6] 0 (z_X4_addRecordsBut (p := p) (d := e - 1) (rs := allL C o) rfl hp2 w2 hbp w3 ⟨by omega, by omega⟩ (by omega) (by omega)) miX4_addRecordsBut ml_X4_199 (by decide) (by decide) rfl (by decide) rfl rfl rfl rfl (Nat.le_of_ble_eq_true rfl) ⟨Nat.zero_le _, Nat.zero_le _⟩ dX4_merge_147 rfl ?_
          rw [show recS C p (notAt C p (-1)) (pb C p 1) = allL C p from rfl]
          rintro _ _ ⟨rfl, rfl⟩
          dsimp only [wput, List.set, Option.toList, List.nil_append, List.cons_append]
          refine v_aload_n (n := 151) k dX4_merge_150 rfl rfl ?_
          refine v_get (n := 154) k ciX4 0 1 (by decide) fl_X4_21 rfl rfl dX4_merge_151 rfl ?_
          refine v_aload_n (n := 155) k dX4_merge_154 rfl rfl ?_
          refine v_get (n := 158) k ciX4 0 2 (by decide) fl_X4_28 rfl rfl dX4_merge_155 rfl ?_
          refine v_iload (n := 160) k dX4_merge_158 rfl rfl ?_
          refine v_upV (n := 163) k [4, 1, 2, 3, 7, 8, 5, 6] 4 (z_X0_add (q := o) (ps := []) hO (by omega) (by simp; omega) w2 hal hks) miX0_add ml_X4_227 (by decide) (by decide) rfl (by decide) rfl rfl rfl rfl (Nat.le_of_ble_eq_true rfl) ⟨Nat.zero_le _, Nat.zero_le _⟩ dX4_merge_160 rfl ?_
          rintro _ _ ⟨b1, C2, wt2, al2, dn2, ko3, hs1, hks1, hal1, rfl, rfl⟩
          dsimp only [wput, List.set, Option.toList, List.nil_append, List.cons_append]
          refine v_if_ne (n := 166) (t := 168) k (⟨by cases b1 <;> decide, by cases b1 <;> decide⟩) dX4_merge_163 (by decide) rfl (fun c_163 => ?_) (fun c_163 => ?_)
          · have hb9 : b1 = true := by
              cases b1 with
              | true => rfl
              | false => exact absurd rfl c_163
            subst hb9
            have hag2 : AGR lg C C2 := sW_agr hs1 (by simp) (by simp; omega)
            have hC2 : ∀ j, C2 j < 256 := sW_lt hs1 w3 (fun j _ => two_lt w3 (by omega) hbo hbp (by omega) j)
            have hrt : rtL C2 fr (fr + sp) o (dpO fr (fr + sp)) (fr / 256) = rtL C fr (fr + sp) o (dpO fr (fr + sp)) (fr / 256) := rtL_agr hag2 hw _ _ (by unfold dpO; omega)
            refine v_aload_n (n := 169) k dX4_merge_168 rfl rfl ?_
            refine v_iload (n := 171) k dX4_merge_169 rfl rfl ?_
            refine v_iload (n := 173) k dX4_merge_171 rfl rfl ?_
            refine v_iload (n := 175) k dX4_merge_173 rfl rfl ?_
            refine v_iadd (n := 176) k dX4_merge_175 rfl ?_
            refine v_iload (n := 178) k dX4_merge_176 rfl rfl ?_
            refine v_upV (n := 181) k [0, 1, 2, 3, 4, 5, 6, 7, 8] 0 (z_X4_retell (a := fr) (b := fr + sp) (q := o) (ps := [o]) rfl rfl hO (by omega) (by omega) (hag2.dw hw hC2) (by rw [hag2.c0 (by omega)]; omega) hks1 hal1 (by simp; omega) hlp) miX4_retell ml_X4_244 (by decide) (by decide) rfl (by decide) rfl rfl rfl rfl (Nat.le_of_ble_eq_true rfl) ⟨Nat.zero_le _, Nat.zero_le _⟩ dX4_merge_178 rfl ?_
            rw [show (fr + sp - 1) / 256 + 1 - fr / 256 = dpO fr (fr + sp) from rfl, hrt]
            rintro _ _ ⟨b5, C5, wt5, al5, dn5, ko5, fj5, fb5, hs5, hj5, hks5, hal5, hC5, rfl, rfl⟩
            dsimp only [wput, List.set, Option.toList, List.nil_append, List.cons_append]
            refine v_if_eq (n := 184) (t := 198) k (⟨by cases b5 <;> decide, by cases b5 <;> decide⟩) dX4_merge_181 (by decide) rfl (fun c_181 => ?_) (fun c_181 => ?_)
            · refine v_iconst (n := 199) k dX4_merge_198 rfl ?_
              refine v_iretU k hq ?_ rfl dX4_merge_199
              have hb9 : b5 = false := by
                cases b5 with
                | false => rfl
                | true => exact absurd c_181 (by decide)
              subst hb9
              refine ⟨4, C5, wt5, al5, dn5, ko5, _, _, _, ?_, hks5, hal5, rfl, rfl⟩
              refine (hmg o p (Or.inr ⟨hz0, rfl, rfl⟩) (by unfold dpO; omega)).trans (congrArg stC (sChg_f ((sImg_t (i := 0) hs1).trans hs5)))
            · have hb9 : b5 = true := by
                cases b5 with
                | true => rfl
                | false => exact absurd rfl c_181
              subst hb9
              have hfj := hj5 rfl
              subst hfj
              have hJ9 : JV (jpg ([o] ++ (rtL C fr (fr + sp) o (dpO fr (fr + sp)) (fr / 256)).map Prod.fst)) pg := by
                refine JV_of (by simp [rtL_len]; unfold dpO; omega) (fun x hx => ?_)
                rcases List.mem_append.mp hx with g | g
                · simp at g
                  omega
                · obtain ⟨t, t1, t2, t3⟩ := rtL_fst _ _ _ _ _ _ x g
                  have h5 := w5 t (by unfold dpO at t2; omega)
                  have h6 := w6 t (by unfold dpO at t2; omega)
                  rw [pb0] at t3
                  omega
              refine v_aload_n (n := 185) k dX4_merge_184 rfl rfl ?_
              refine v_get (n := 188) k ciX4 0 1 (by decide) fl_X4_21 rfl rfl dX4_merge_185 rfl ?_
              refine v_upV (n := 191) k [4, 1, 2, 3, 7, 8, 9, 10] 4 (z_X0_finish (ps := [o] ++ (rtL C fr (fr + sp) o (dpO fr (fr + sp)) (fr / 256)).map Prod.fst) hJ9 w2 hks5 hal5) miX0_finish ml_X4_231 (by decide) (by decide) rfl (by decide) rfl rfl rfl rfl (Nat.le_of_ble_eq_true rfl) ⟨Nat.zero_le _, Nat.zero_le _⟩ dX4_merge_188 rfl ?_
              rintro _ _ ⟨b2, C7, wt7, al7, dn7, ko7, fj7, fi7, hs7, hks7, hal7, rfl, rfl⟩
              dsimp only [wput, List.set, Option.toList, List.nil_append, List.cons_append]
              refine v_if_eq (n := 194) (t := 198) k (⟨by cases b2 <;> decide, by cases b2 <;> decide⟩) dX4_merge_191 (by decide) rfl (fun c_191 => ?_) (fun c_191 => ?_)
              · refine v_iconst (n := 199) k dX4_merge_198 rfl ?_
                refine v_iretU k hq ?_ rfl dX4_merge_199
                have hb9 : b2 = false := by
                  cases b2 with
                  | false => rfl
                  | true => exact absurd c_191 (by decide)
                subst hb9
                refine ⟨4, C7, wt7, al7, dn7, ko7, _, _, _, ?_, hks7, hal7, rfl, rfl⟩
                refine (hmg o p (Or.inr ⟨hz0, rfl, rfl⟩) (by unfold dpO; omega)).trans (congrArg stC (sChg_t ((sImg_t (i := 0) hs1).trans hs5) hs7))
              · refine v_iconst (n := 195) k dX4_merge_194 rfl ?_
                refine v_goto (t := 199) k dX4_merge_195 (by decide) ?_
                refine v_iretU k hq ?_ rfl dX4_merge_199
                have hb9 : b2 = true := by
                  cases b2 with
                  | true => rfl
                  | false => exact absurd rfl c_191
                subst hb9
                refine ⟨0, C7, wt7, al7, dn7, ko7, _, _, _, ?_, hks7, hal7, rfl, rfl⟩
                refine (hmg o p (Or.inr ⟨hz0, rfl, rfl⟩) (by unfold dpO; omega)).trans (congrArg stC (sChg_t ((sImg_t (i := 0) hs1).trans hs5) hs7))
          · refine v_iconst (n := 167) k dX4_merge_166 rfl ?_
            refine v_iretU k hq ?_ rfl dX4_merge_167
            have hb9 : b1 = false := by
              cases b1 with
              | false => rfl
              | true => exact absurd c_163 (by decide)
            subst hb9
            refine ⟨4, C2, wt2, al2, dn2, ko3, _, _, _, ?_, hks1, hal1, rfl, rfl⟩
            refine (hmg o p (Or.inr ⟨hz0, rfl, rfl⟩) (by unfold dpO; omega)).trans (congrArg stC (sChg_f (sImg_f (i := 0) hs1)))
        · refine v_iconst (n := 117) k dX4_merge_116 rfl ?_
          refine v_iretU k hq ?_ rfl dX4_merge_117
          refine ⟨2, C, wt, al, dn, ko, _, _, _, ?_, hks, hal, rfl, rfl⟩
          show (if lg < 1 + dpO (mgF C h (pb C (entN C (idx C h)) 0)) (mgF C h (pb C (entN C (idx C h)) 0) + 2 ^ (C 0 - pb C (entN C (idx C h)) 0)) then _ else _) = _
          rw [hgp, hge, hgs, hgf, if_pos (show lg < 1 + dpO fr (fr + sp) by unfold dpO; omega)]
      · exfalso; omega
    · exfalso; omega
  · have hz0 : ix &&& sp = 0 := by omega
    refine v_iconst (n := 53) k dX4_merge_52 rfl ?_
    refine v_goto (t := 57) k dX4_merge_53 (by decide) ?_
    refine v_istore (n := 59) k dX4_merge_57 rfl (by decide) rfl rfl ?_
    refine v_iload (n := 61) k dX4_merge_59 rfl rfl ?_
    refine v_if_eq (n := 64) (t := 68) k (⟨by omega, by omega⟩) dX4_merge_61 (by decide) rfl (fun c_61 => ?_) (fun c_61 => ?_)
    · exfalso; omega
    · refine v_iload_n (n := 65) k dX4_merge_64 rfl rfl ?_
      refine v_goto (t := 69) k dX4_merge_65 (by decide) ?_
      refine v_istore (n := 71) k dX4_merge_69 rfl (by decide) rfl rfl ?_
      refine v_iload (n := 73) k dX4_merge_71 rfl rfl ?_
      refine v_if_eq (n := 76) (t := 80) k (⟨by omega, by omega⟩) dX4_merge_73 (by decide) rfl (fun c_73 => ?_) (fun c_73 => ?_)
      · exfalso; omega
      · refine v_iload_n (n := 77) k dX4_merge_76 rfl rfl ?_
        refine v_goto (t := 81) k dX4_merge_77 (by decide) ?_
        refine v_istore (n := 83) k dX4_merge_81 rfl (by decide) rfl rfl ?_
        refine v_iload (n := 85) k dX4_merge_83 rfl rfl ?_
        refine v_iload (n := 87) k dX4_merge_85 rfl rfl ?_
        refine v_ior (n := 88) k (((ix ||| sp : Nat) : Int)) (ax_or _ _) dX4_merge_87 rfl ?_
        refine v_iload (n := 90) k dX4_merge_88 rfl rfl ?_
        refine v_ineg (n := 91) k dX4_merge_90 rfl ?_
        refine v_iand (n := 92) k (((fr : Nat) : Int)) (by rw [hfe, ← hgs]; exact ax_negmask rfl rfl (by rw [hgs]; omega) (by omega)) dX4_merge_91 rfl ?_
        refine v_istore (n := 94) k dX4_merge_92 rfl (by decide) rfl rfl ?_
        refine v_iconst (n := 95) k dX4_merge_94 rfl ?_
        refine v_iload (n := 97) k dX4_merge_95 rfl rfl ?_
        refine v_iload (n := 99) k dX4_merge_97 rfl rfl ?_
        refine v_iload (n := 101) k dX4_merge_99 rfl rfl ?_
        refine v_iadd (n := 102) k dX4_merge_101 rfl ?_
        refine v_rdSi (n := 105) k [] (z_X4_directoryPagesOf (a := fr) (b := fr + sp) rfl rfl (by omega) (by omega)) miX4_directoryPagesOf ml_X4_237 (by decide) (by decide) rfl (by decide) rfl rfl (Nat.le_of_ble_eq_true rfl) ⟨Nat.zero_le _, Nat.zero_le _⟩ dX4_merge_102 rfl ?_
        refine v_iadd (n := 106) k dX4_merge_105 rfl ?_
        refine v_aload_n (n := 107) k dX4_merge_106 rfl rfl ?_
        refine v_get (n := 110) k ciX4 0 0 (by decide) fl_X4_10 rfl rfl dX4_merge_107 rfl ?_
        refine v_rdVi (n := 113) k [1] 1 (z_X1_log) miX1_log ml_X4_157 (by decide) (by decide) rfl (by decide) rfl rfl rfl rfl (Nat.le_of_ble_eq_true rfl) ⟨Nat.zero_le _, Nat.zero_le _⟩ dX4_merge_110 rfl ?_
        refine v_icmp_le (n := 116) (t := 118) k (⟨by omega, by omega⟩) (⟨by omega, by omega⟩) dX4_merge_113 (by decide) rfl (fun c_113 => ?_) (fun c_113 => ?_)
        · refine v_aload_n (n := 119) k dX4_merge_118 rfl rfl ?_
          refine v_get (n := 122) k ciX4 0 1 (by decide) fl_X4_21 rfl rfl dX4_merge_119 rfl ?_
          refine v_upV (n := 125) k [4, 7, 8] 4 (z_X0_begin) miX0_begin ml_X4_209 (by decide) (by decide) rfl (by decide) rfl rfl rfl rfl (Nat.le_of_ble_eq_true rfl) ⟨Nat.zero_le _, Nat.zero_le _⟩ dX4_merge_122 rfl ?_
          rintro _ _ ⟨rfl, rfl⟩
          dsimp only [wput, List.set, Option.toList, List.nil_append, List.cons_append]
          refine v_aload_n (n := 126) k dX4_merge_125 rfl rfl ?_
          refine v_get (n := 129) k ciX4 0 2 (by decide) fl_X4_28 rfl rfl dX4_merge_126 rfl ?_
          refine v_iload (n := 131) k dX4_merge_129 rfl rfl ?_
          refine v_iconst (n := 132) k dX4_merge_131 rfl ?_
          refine v_isub (n := 133) k dX4_merge_132 rfl ?_
          refine v_upV (n := 136) k [5, 6] 5 (z_X2_startBucket (v := e - 1) (by omega)) miX2_startBucket ml_X4_196 (by decide) (by decide) rfl (by decide) rfl rfl rfl rfl (Nat.le_of_ble_eq_true rfl) ⟨Nat.zero_le _, Nat.zero_le _⟩ dX4_merge_133 rfl ?_
          rw [bpg_0 (by omega)]
          rintro _ _ ⟨rfl, rfl⟩
          dsimp only [wput, List.set, Option.toList, List.nil_append, List.cons_append]
          refine v_aload_n (n := 137) k dX4_merge_136 rfl rfl ?_
          refine v_iload (n := 139) k dX4_merge_137 rfl rfl ?_
          refine v_iconst (n := 140) k dX4_merge_139 rfl ?_
          refine v_upV (n := 143) k [0, 1, 2, 5, 6] 0 (z_X4_addRecordsBut (p := p) (d := e - 1) (rs := []) rfl hp2 w2 hbp w3 ⟨by omega, by omega⟩ (by simp; omega) (by simp; omega)) miX4_addRecordsBut ml_X4_199 (by decide) (by decide) rfl (by decide) rfl rfl rfl rfl (Nat.le_of_ble_eq_true rfl) ⟨Nat.zero_le _, Nat.zero_le _⟩ dX4_merge_140 rfl ?_
          rw [List.nil_append, show recS C p (notAt C p (-1)) (pb C p 1) = allL C p from rfl]
          rintro _ _ ⟨rfl, rfl⟩
          dsimp only [wput, List.set, Option.toList, List.nil_append, List.cons_append]
          refine v_aload_n (n := 144) k dX4_merge_143 rfl rfl ?_
          refine v_iload (n := 146) k dX4_merge_144 rfl rfl ?_
          refine v_iconst (n := 147) k dX4_merge_146 rfl ?_
          refine v_upV (n := 150) k [0, 1, 2, 5, 6] 0 (z_X4_addRecordsBut (p := o) (d := e - 1) (rs := allL C p) hO ho2 w2 hbo w3 ⟨by omega, by omega⟩ (by omega) (by omega)) miX4_addRecordsBut ml_X4_199 (by decide) (by decide) rfl (by decide) rfl rfl rfl rfl (Nat.le_of_ble_eq_true rfl) ⟨Nat.zero_le _, Nat.zero_le _⟩ dX4_merge_147 rfl ?_
          rw [show recS C o (notAt C o (-1)) (pb C o 1) = allL C o from rfl]
          rintro _ _ ⟨rfl, rfl⟩
          dsimp only [wput, List.set, Option.toList, List.nil_append, List.cons_append]
          refine v_aload_n (n := 151) k dX4_merge_150 rfl rfl ?_
          refine v_get (n := 154) k ciX4 0 1 (by decide) fl_X4_21 rfl rfl dX4_merge_151 rfl ?_
          refine v_aload_n (n := 155) k dX4_merge_154 rfl rfl ?_
          refine v_get (n := 158) k ciX4 0 2 (by decide) fl_X4_28 rfl rfl dX4_merge_155 rfl ?_
          refine v_iload (n := 160) k dX4_merge_158 rfl rfl ?_
          refine v_upV (n := 163) k [4, 1, 2, 3, 7, 8, 5, 6] 4 (z_X0_add (q := p) (ps := []) rfl (by omega) (by simp; omega) w2 hal hks) miX0_add ml_X4_227 (by decide) (by decide) rfl (by decide) rfl rfl rfl rfl (Nat.le_of_ble_eq_true rfl) ⟨Nat.zero_le _, Nat.zero_le _⟩ dX4_merge_160 rfl ?_
          rintro _ _ ⟨b1, C2, wt2, al2, dn2, ko3, hs1, hks1, hal1, rfl, rfl⟩
          dsimp only [wput, List.set, Option.toList, List.nil_append, List.cons_append]
          refine v_if_ne (n := 166) (t := 168) k (⟨by cases b1 <;> decide, by cases b1 <;> decide⟩) dX4_merge_163 (by decide) rfl (fun c_163 => ?_) (fun c_163 => ?_)
          · have hb9 : b1 = true := by
              cases b1 with
              | true => rfl
              | false => exact absurd rfl c_163
            subst hb9
            have hag2 : AGR lg C C2 := sW_agr hs1 (by simp) (by simp; omega)
            have hC2 : ∀ j, C2 j < 256 := sW_lt hs1 w3 (fun j _ => two_lt w3 (by omega) hbp hbo hL j)
            have hrt : rtL C2 fr (fr + sp) p (dpO fr (fr + sp)) (fr / 256) = rtL C fr (fr + sp) p (dpO fr (fr + sp)) (fr / 256) := rtL_agr hag2 hw _ _ (by unfold dpO; omega)
            refine v_aload_n (n := 169) k dX4_merge_168 rfl rfl ?_
            refine v_iload (n := 171) k dX4_merge_169 rfl rfl ?_
            refine v_iload (n := 173) k dX4_merge_171 rfl rfl ?_
            refine v_iload (n := 175) k dX4_merge_173 rfl rfl ?_
            refine v_iadd (n := 176) k dX4_merge_175 rfl ?_
            refine v_iload (n := 178) k dX4_merge_176 rfl rfl ?_
            refine v_upV (n := 181) k [0, 1, 2, 3, 4, 5, 6, 7, 8] 0 (z_X4_retell (a := fr) (b := fr + sp) (q := p) (ps := [p]) rfl rfl rfl (by omega) (by omega) (hag2.dw hw hC2) (by rw [hag2.c0 (by omega)]; omega) hks1 hal1 (by simp; omega) hlp) miX4_retell ml_X4_244 (by decide) (by decide) rfl (by decide) rfl rfl rfl rfl (Nat.le_of_ble_eq_true rfl) ⟨Nat.zero_le _, Nat.zero_le _⟩ dX4_merge_178 rfl ?_
            rw [show (fr + sp - 1) / 256 + 1 - fr / 256 = dpO fr (fr + sp) from rfl, hrt]
            rintro _ _ ⟨b5, C5, wt5, al5, dn5, ko5, fj5, fb5, hs5, hj5, hks5, hal5, hC5, rfl, rfl⟩
            dsimp only [wput, List.set, Option.toList, List.nil_append, List.cons_append]
            refine v_if_eq (n := 184) (t := 198) k (⟨by cases b5 <;> decide, by cases b5 <;> decide⟩) dX4_merge_181 (by decide) rfl (fun c_181 => ?_) (fun c_181 => ?_)
            · refine v_iconst (n := 199) k dX4_merge_198 rfl ?_
              refine v_iretU k hq ?_ rfl dX4_merge_199
              have hb9 : b5 = false := by
                cases b5 with
                | false => rfl
                | true => exact absurd c_181 (by decide)
              subst hb9
              refine ⟨4, C5, wt5, al5, dn5, ko5, _, _, _, ?_, hks5, hal5, rfl, rfl⟩
              refine (hmg p o (Or.inl ⟨hz0, rfl, rfl⟩) (by unfold dpO; omega)).trans (congrArg stC (sChg_f ((sImg_t (i := 0) hs1).trans hs5)))
            · have hb9 : b5 = true := by
                cases b5 with
                | true => rfl
                | false => exact absurd rfl c_181
              subst hb9
              have hfj := hj5 rfl
              subst hfj
              have hJ9 : JV (jpg ([p] ++ (rtL C fr (fr + sp) p (dpO fr (fr + sp)) (fr / 256)).map Prod.fst)) pg := by
                refine JV_of (by simp [rtL_len]; unfold dpO; omega) (fun x hx => ?_)
                rcases List.mem_append.mp hx with g | g
                · simp at g
                  omega
                · obtain ⟨t, t1, t2, t3⟩ := rtL_fst _ _ _ _ _ _ x g
                  have h5 := w5 t (by unfold dpO at t2; omega)
                  have h6 := w6 t (by unfold dpO at t2; omega)
                  rw [pb0] at t3
                  omega
              refine v_aload_n (n := 185) k dX4_merge_184 rfl rfl ?_
              refine v_get (n := 188) k ciX4 0 1 (by decide) fl_X4_21 rfl rfl dX4_merge_185 rfl ?_
              refine v_upV (n := 191) k [4, 1, 2, 3, 7, 8, 9, 10] 4 (z_X0_finish (ps := [p] ++ (rtL C fr (fr + sp) p (dpO fr (fr + sp)) (fr / 256)).map Prod.fst) hJ9 w2 hks5 hal5) miX0_finish ml_X4_231 (by decide) (by decide) rfl (by decide) rfl rfl rfl rfl (Nat.le_of_ble_eq_true rfl) ⟨Nat.zero_le _, Nat.zero_le _⟩ dX4_merge_188 rfl ?_
              rintro _ _ ⟨b2, C7, wt7, al7, dn7, ko7, fj7, fi7, hs7, hks7, hal7, rfl, rfl⟩
              dsimp only [wput, List.set, Option.toList, List.nil_append, List.cons_append]
              refine v_if_eq (n := 194) (t := 198) k (⟨by cases b2 <;> decide, by cases b2 <;> decide⟩) dX4_merge_191 (by decide) rfl (fun c_191 => ?_) (fun c_191 => ?_)
              · refine v_iconst (n := 199) k dX4_merge_198 rfl ?_
                refine v_iretU k hq ?_ rfl dX4_merge_199
                have hb9 : b2 = false := by
                  cases b2 with
                  | false => rfl
                  | true => exact absurd c_191 (by decide)
                subst hb9
                refine ⟨4, C7, wt7, al7, dn7, ko7, _, _, _, ?_, hks7, hal7, rfl, rfl⟩
                refine (hmg p o (Or.inl ⟨hz0, rfl, rfl⟩) (by unfold dpO; omega)).trans (congrArg stC (sChg_t ((sImg_t (i := 0) hs1).trans hs5) hs7))
              · refine v_iconst (n := 195) k dX4_merge_194 rfl ?_
                refine v_goto (t := 199) k dX4_merge_195 (by decide) ?_
                refine v_iretU k hq ?_ rfl dX4_merge_199
                have hb9 : b2 = true := by
                  cases b2 with
                  | true => rfl
                  | false => exact absurd rfl c_191
                subst hb9
                refine ⟨0, C7, wt7, al7, dn7, ko7, _, _, _, ?_, hks7, hal7, rfl, rfl⟩
                refine (hmg p o (Or.inl ⟨hz0, rfl, rfl⟩) (by unfold dpO; omega)).trans (congrArg stC (sChg_t ((sImg_t (i := 0) hs1).trans hs5) hs7))
          · refine v_iconst (n := 167) k dX4_merge_166 rfl ?_
            refine v_iretU k hq ?_ rfl dX4_merge_167
            have hb9 : b1 = false := by
              cases b1 with
              | false => rfl
              | true => exact absurd c_163 (by decide)
            subst hb9
            refine ⟨4, C2, wt2, al2, dn2, ko3, _, _, _, ?_, hks1, hal1, rfl, rfl⟩
            refine (hmg p o (Or.inl ⟨hz0, rfl, rfl⟩) (by unfold dpO; omega)).trans (congrArg stC (sChg_f (sImg_f (i := 0) hs1)))
        · refine v_iconst (n := 117) k dX4_merge_116 rfl ?_
          refine v_iretU k hq ?_ rfl dX4_merge_117
          refine ⟨2, C, wt, al, dn, ko, _, _, _, ?_, hks, hal, rfl, rfl⟩
          show (if lg < 1 + dpO (mgF C h (pb C (entN C (idx C h)) 0)) (mgF C h (pb C (entN C (idx C h)) 0) + 2 ^ (C 0 - pb C (entN C (idx C h)) 0)) then _ else _) = _
          rw [hgp, hge, hgs, hgf, if_pos (show lg < 1 + dpO fr (fr + sp) by unfold dpO; omega)]
