theorem v_tabIn {x : Kx} {cc : ByteArray} {nL : Nat} {own : String} {ret : Option FieldType} {D : va_G} {tys : List (ClassId × FieldType)} {rm : Room} {A : Nat → Prop} {wr : Bool} {cells slots : Nat} {ws : va_W} {pc : Nat} {lv : List (Nat × Value)} {st : List Value} (k : Kf x cc nL own ret D tys rm) {dflt lo hi : Int} {offs : Array Int} {len : Nat} {a off : Int} {t : Nat} (ha : in32 a) (hd : decode cc pc = .ok (.tableswitch dflt lo hi offs, len)) (h1 : ¬ a < lo) (h2 : ¬ hi < a) (ho : offs[(a - lo).toNat]? = some off) (ht : (pc : Int) + off = (t : Int)) (h : Vw x nL A D wr cells slots ws t lv st) : Vw x nL A D wr cells slots ws pc lv (.int (iI a) :: st) := by
  intro H locs ls a' b' c d
  exact lv_tableIn k.1 k.2.1 hd (by rw [iI_toInt ha]; exact h1) (by rw [iI_toInt ha]; exact h2) (by rw [iI_toInt ha]; exact ho) ht (h H locs ls a' b' c d)
theorem v_tabOut {x : Kx} {cc : ByteArray} {nL : Nat} {own : String} {ret : Option FieldType} {D : va_G} {tys : List (ClassId × FieldType)} {rm : Room} {A : Nat → Prop} {wr : Bool} {cells slots : Nat} {ws : va_W} {pc : Nat} {lv : List (Nat × Value)} {st : List Value} (k : Kf x cc nL own ret D tys rm) {dflt lo hi : Int} {offs : Array Int} {len : Nat} {a : Int} {t : Nat} (ha : in32 a) (hd : decode cc pc = .ok (.tableswitch dflt lo hi offs, len)) (h1 : a < lo ∨ hi < a) (ht : (pc : Int) + dflt = (t : Int)) (h : Vw x nL A D wr cells slots ws t lv st) : Vw x nL A D wr cells slots ws pc lv (.int (iI a) :: st) := by
  intro H locs ls a' b' c d
  exact lv_tableOut k.1 k.2.1 hd (by rw [iI_toInt ha]; exact h1) ht (h H locs ls a' b' c d)
/-- byte I of the answer -/
def ansF (An : Nat → Nat) (an I : Int) : Int := if 0 ≤ I ∧ I < an then ((An I.toNat : Nat) : Int) else -1
set_option maxHeartbeats 1000000 in
set_option maxRecDepth 20000 in
theorem z_X4_answer {D : va_G} {cI cB cJ cZ : ClassId} {hx hd hch hb hh ht ha : Nat} {an : Int} {An : Nat → Nat} {I : Int} (hI : in32 I) (han : 0 ≤ an ∧ an ≤ 32) : ∀ l, Rd l yX4_answer cX4_answer 2 (some .int) ({ frames := 0, cells := 0, slots := 0, locals := 0 }) D (TY cI cB cJ cZ) [.ref hx, .int (iI I)] [oHash hx hd hch hb hh ht ha an, aN cI ha 32 An] (fun v => v = some (.int (iI (ansF An an I)))) := by
  intro l
  refine Rd_of (by decide) (Nat.le_of_ble_eq_true rfl) (fun x k hq => ?_)
  obtain ⟨hi1, hi2⟩ := hI
  refine v_iload_n (n := 1) k dX4_answer_0 rfl rfl ?_
  refine v_if_lt (n := 4) (t := 30) k (⟨by omega, by omega⟩) dX4_answer_1 (by decide) rfl (fun c_1 => ?_) (fun c_1 => ?_)
  · refine v_iconst (n := 31) k dX4_answer_30 rfl ?_
    refine v_iretR k hq ?_ dX4_answer_31
    first | rw [ansF, if_pos ⟨by omega, by omega⟩] | rw [ansF, if_neg (by omega)]
  · refine v_iload_n (n := 5) k dX4_answer_4 rfl rfl ?_
    refine v_aload_n (n := 6) k dX4_answer_5 rfl rfl ?_
    refine v_get (n := 9) k ciX4 0 6 (by decide) fl_X4_46 rfl rfl dX4_answer_6 rfl ?_
    refine v_icmp_ge (n := 12) (t := 30) k (⟨by omega, by omega⟩) (⟨by omega, by omega⟩) dX4_answer_9 (by decide) rfl (fun c_9 => ?_) (fun c_9 => ?_)
    · refine v_iconst (n := 31) k dX4_answer_30 rfl ?_
      refine v_iretR k hq ?_ dX4_answer_31
      first | rw [ansF, if_pos ⟨by omega, by omega⟩] | rw [ansF, if_neg (by omega)]
    · refine v_iload_n (n := 13) k dX4_answer_12 rfl rfl ?_
      refine v_aload_n (n := 14) k dX4_answer_13 rfl rfl ?_
      refine v_get (n := 17) k ciX4 0 5 (by decide) fl_X4_42 rfl rfl dX4_answer_14 rfl ?_
      refine v_alen (n := 18) k 1 0 rfl rfl dX4_answer_17 rfl ?_
      refine v_icmp_ge (n := 21) (t := 30) k (⟨by omega, by omega⟩) (⟨by omega, by omega⟩) dX4_answer_18 (by decide) rfl (fun c_18 => ?_) (fun c_18 => ?_)
      · exfalso; omega
      · refine v_aload_n (n := 22) k dX4_answer_21 rfl rfl ?_
        refine v_get (n := 25) k ciX4 0 5 (by decide) fl_X4_42 rfl rfl dX4_answer_22 rfl ?_
        refine v_iload_n (n := 26) k dX4_answer_25 rfl rfl ?_
        refine v_ialdN (n := 27) k 1 0 (I.toNat) rfl rfl (by omega) (by omega) (by omega) dX4_answer_26 rfl ?_
        refine v_goto (t := 31) k dX4_answer_27 (by decide) ?_
        refine v_iretR k hq ?_ dX4_answer_31
        first | rw [ansF, if_pos ⟨by omega, by omega⟩] | rw [ansF, if_neg (by omega)]
set_option maxHeartbeats 1000000 in
set_option maxRecDepth 20000 in
theorem z_X4_byteOf {D : va_G} {cI cB cJ cZ : ClassId} {hx hd hc hk hch hb hh ht ha : Nat} {an : Int} {ko : Int} {pg lg : Nat} {wt al dn : Int} {C : Nat → Nat} {P I : Int} (hP : in32 P) (hI : in32 I) (hg : pg ≤ 255) : ∀ l, Rd l yX4_byteOf cX4_byteOf 3 (some .int) ({ frames := 1, cells := 0, slots := 0, locals := 22 }) D (TY cI cB cJ cZ) [.ref hx, .int (iI P), .int (iI I)] [oHash hx hd hch hb hh ht ha an, oDisk hd hc hk ko pg lg wt al dn, aN cI hc 65280 C] (fun v => v = some (.int (iI (atF C pg P I)))) := by
  intro l
  refine Rd_of (by decide) (Nat.le_of_ble_eq_true rfl) (fun x k hq => ?_)
  refine v_aload_n (n := 1) k dX4_byteOf_0 rfl rfl ?_
  refine v_get (n := 4) k ciX4 0 0 (by decide) fl_X4_10 rfl rfl dX4_byteOf_1 rfl ?_
  refine v_iload_n (n := 5) k dX4_byteOf_4 rfl rfl ?_
  refine v_iload_n (n := 6) k dX4_byteOf_5 rfl rfl ?_
  refine v_rdVi (n := 9) k [1, 2] 1 (z_X1_atG hP hI hg) miX1_at ml_X4_130 (by decide) (by decide) rfl (by decide) rfl rfl rfl rfl (Nat.le_of_ble_eq_true rfl) ⟨Nat.zero_le _, Nat.zero_le _⟩ dX4_byteOf_6 rfl ?_
  refine v_iretR k hq ?_ dX4_byteOf_9
  rfl
set_option maxHeartbeats 1000000 in
set_option maxRecDepth 20000 in
theorem z_X4_entry {D : va_G} {cI cB cJ cZ : ClassId} {hx hd hc hk hch hb hh ht ha : Nat} {an : Int} {ko : Int} {pg lg : Nat} {wt al dn : Int} {C : Nat → Nat} {I : Int} (hw : DW C pg lg) (hI : in32 I) : ∀ l, Rd l yX4_entry cX4_entry 2 (some .int) ({ frames := 3, cells := 0, slots := 0, locals := 64 }) D (TY cI cB cJ cZ) [.ref hx, .int (iI I)] [oHash hx hd hch hb hh ht ha an, oDisk hd hc hk ko pg lg wt al dn, aN cI hc 65280 C] (fun v => v = some (.int (iI (entF C I)))) := by
  intro l
  refine Rd_of (by decide) (Nat.le_of_ble_eq_true rfl) (fun x k hq => ?_)
  refine v_aload_n (n := 1) k dX4_entry_0 rfl rfl ?_
  refine v_get (n := 4) k ciX4 0 0 (by decide) fl_X4_10 rfl rfl dX4_entry_1 rfl ?_
  refine v_iload_n (n := 5) k dX4_entry_4 rfl rfl ?_
  refine v_rdVi (n := 8) k [1, 2] 1 (z_X1_entryAtG hw hI) miX1_entryAt ml_X4_145 (by decide) (by decide) rfl (by decide) rfl rfl rfl rfl (Nat.le_of_ble_eq_true rfl) ⟨Nat.zero_le _, Nat.zero_le _⟩ dX4_entry_5 rfl ?_
  refine v_iretR k hq ?_ dX4_entry_8
  rfl
def hshF (T : Nat → Nat) (sz : Nat) : Int := if 1 ≤ sz ∧ sz ≤ 16 then ((hsh T 0 sz : Nat) : Int) else -1
set_option maxHeartbeats 1000000 in
set_option maxRecDepth 20000 in
theorem z_X4_hash {D : va_G} {cI cB cJ cZ : ClassId} {hx hd hch hb hh ht htb ha : Nat} {an : Int} {tn : Nat} {T : Nat → Nat} (htn : tn ≤ 48) : ∀ l, Rd l yX4_hash cX4_hash 2 (some .int) ({ frames := 2, cells := 0, slots := 0, locals := 45 }) D (TY cI cB cJ cZ) [.ref hx] [oHash hx hd hch hb hh ht ha an, oTape ht htb (tn : Int), aN cI htb 48 T] (fun v => v = some (.int (iI (hshF T tn)))) := by
  intro l
  refine Rd_of (by decide) (Nat.le_of_ble_eq_true rfl) (fun x k hq => ?_)
  refine v_aload_n (n := 1) k dX4_hash_0 rfl rfl ?_
  refine v_get (n := 4) k ciX4 0 4 (by decide) fl_X4_38 rfl rfl dX4_hash_1 rfl ?_
  refine v_rdVi (n := 7) k [1] 1 (z_X3_size) miX3_size ml_X4_67 (by decide) (by decide) rfl (by decide) rfl rfl rfl rfl (Nat.le_of_ble_eq_true rfl) ⟨Nat.zero_le _, Nat.zero_le _⟩ dX4_hash_4 rfl ?_
  refine v_istore_n (n := 8) k dX4_hash_7 rfl (by decide) rfl rfl ?_
  refine v_iload_n (n := 9) k dX4_hash_8 rfl rfl ?_
  refine v_iconst (n := 10) k dX4_hash_9 rfl ?_
  refine v_icmp_lt (n := 13) (t := 30) k (⟨by omega, by omega⟩) (⟨by omega, by omega⟩) dX4_hash_10 (by decide) rfl (fun c_10 => ?_) (fun c_10 => ?_)
  · refine v_iconst (n := 31) k dX4_hash_30 rfl ?_
    refine v_iretR k hq ?_ dX4_hash_31
    first | rw [hshF, if_pos ⟨by omega, by omega⟩] | rw [hshF, if_neg (by omega)]
  · refine v_iload_n (n := 14) k dX4_hash_13 rfl rfl ?_
    refine v_bipush (n := 16) k dX4_hash_14 (by decide) rfl ?_
    refine v_icmp_gt (n := 19) (t := 30) k (⟨by omega, by omega⟩) (⟨by omega, by omega⟩) dX4_hash_16 (by decide) rfl (fun c_16 => ?_) (fun c_16 => ?_)
    · refine v_iconst (n := 31) k dX4_hash_30 rfl ?_
      refine v_iretR k hq ?_ dX4_hash_31
      first | rw [hshF, if_pos ⟨by omega, by omega⟩] | rw [hshF, if_neg (by omega)]
    · refine v_aload_n (n := 20) k dX4_hash_19 rfl rfl ?_
      refine v_get (n := 23) k ciX4 0 4 (by decide) fl_X4_38 rfl rfl dX4_hash_20 rfl ?_
      refine v_iload_n (n := 24) k dX4_hash_23 rfl rfl ?_
      refine v_rdVi (n := 27) k [1, 2] 1 (z_X3_keyHash (z := tn) rfl htn) miX3_keyHash ml_X4_96 (by decide) (by decide) rfl (by decide) rfl rfl rfl rfl (Nat.le_of_ble_eq_true rfl) ⟨Nat.zero_le _, Nat.zero_le _⟩ dX4_hash_24 rfl ?_
      refine v_goto (t := 31) k dX4_hash_27 (by decide) ?_
      refine v_iretR k hq ?_ dX4_hash_31
      first | rw [hshF, if_pos ⟨by omega, by omega⟩] | rw [hshF, if_neg (by omega)]
set_option maxHeartbeats 1000000 in
set_option maxRecDepth 20000 in
theorem z_X4_kind {D : va_G} {cI cB cJ cZ : ClassId} {hx hd hc hk hch hb hh ht ha : Nat} {an : Int} {ko : Int} {pg lg : Nat} {wt al dn : Int} {C : Nat → Nat} {K : Nat → Nat} {P : Int} (hw : DW C pg lg) (hP : in32 P) (hks : KS ko K C pg lg) : ∀ l, Up l yX4_kind cX4_kind 2 (some .int) ({ frames := 4, cells := 0, slots := 0, locals := 90 }) D (TY cI cB cJ cZ) [.ref hx, .int (iI P)] [oHash hx hd hch hb hh ht ha an, oDisk hd hc hk ko pg lg wt al dn, aN cI hc 65280 C, aN cI hk 255 K] (fun r w1 => r = some (.int (iI (kdF C pg lg P))) ∧ ∃ ko2 K2, KS ko2 K2 C pg lg ∧ w1 = [oHash hx hd hch hb hh ht ha an, oDisk hd hc hk ko2 pg lg wt al dn, aN cI hc 65280 C, aN cI hk 255 K2]) := by
  intro l
  refine Up_of (by decide) (Nat.le_of_ble_eq_true rfl) (fun x k hq => ?_)
  refine v_aload_n (n := 1) k dX4_kind_0 rfl rfl ?_
  refine v_get (n := 4) k ciX4 0 0 (by decide) fl_X4_10 rfl rfl dX4_kind_1 rfl ?_
  refine v_iload_n (n := 5) k dX4_kind_4 rfl rfl ?_
  refine v_upV (n := 8) k [1, 2, 3] 1 (z_X1_kindOf hw hw.2.2.2.2.2.2 hP hks) miX1_kindOf ml_X4_142 (by decide) (by decide) rfl (by decide) rfl rfl rfl rfl (Nat.le_of_ble_eq_true rfl) ⟨Nat.zero_le _, Nat.zero_le _⟩ dX4_kind_5 rfl ?_
  rintro _ _ ⟨rfl, ko2, K2, hks2, rfl⟩
  dsimp only [wput, List.set, Option.toList, List.nil_append, List.cons_append]
  refine v_iretU k hq ?_ rfl dX4_kind_8
  exact ⟨rfl, ko2, K2, hks2, rfl⟩
theorem kdF_in {C : Nat → Nat} {pg lg : Nat} {P : Int} : in32 (kdF C pg lg P) := by
  unfold kdF
  split
  · have := kdN_le C lg P.toNat
    exact ⟨by omega, by omega⟩
  · exact ⟨by omega, by omega⟩
theorem kdF_5 {C : Nat → Nat} {pg lg : Nat} {P : Int} (h : kdF C pg lg P = 5) : 0 ≤ P ∧ P < (pg : Int) ∧ kdN C lg P.toNat = 5 := by
  unfold kdF at h
  split at h
  · rename_i h1
    exact ⟨h1.1, h1.2, by omega⟩
  · omega
/-- what bucket() answers -/
def bktF (C : Nat → Nat) (pg lg : Nat) (P Q : Int) : Int := if kdF C pg lg P = 5 then (if Q = 0 then ((pb C P.toNat 0 : Nat) : Int) else if Q = 1 then ((pb C P.toNat 1 : Nat) : Int) else if Q = 2 then ((bL C P.toNat : Nat) : Int) else -1) else -1
def recF (C : Nat → Nat) (pg lg : Nat) (P R Q J : Int) : Int :=
  if kdF C pg lg P = 5 ∧ 0 ≤ R ∧ R < ((pb C P.toNat 1 : Nat) : Int) then
    (if Q = 0 then (if 0 ≤ J ∧ J < ((pb C P.toNat (rst C P.toNat R.toNat) : Nat) : Int) then ((pb C P.toNat (rst C P.toNat R.toNat + 2 + J.toNat) : Nat) : Int) else -1)
     else if Q = 1 then (if 0 ≤ J ∧ J < ((pb C P.toNat (rst C P.toNat R.toNat + 1) : Nat) : Int) then ((pb C P.toNat (rst C P.toNat R.toNat + 2 + pb C P.toNat (rst C P.toNat R.toNat) + J.toNat) : Nat) : Int) else -1)
     else -1)
  else -1
def lokF (C : Nat → Nat) (pg lg : Nat) (wt al dn : Int) (tn : Nat) (Q : Int) : Int :=
  if Q = 0 then (pg : Int) else if Q = 1 then (lg : Int) else if Q = 2 then ((C 0 : Nat) : Int) else if Q = 3 then ((cntK C lg 5 pg : Nat) : Int) else if Q = 4 then ((cntK C lg 0 pg : Nat) : Int) else if Q = 5 then ((cntR C lg pg : Nat) : Int)
  else if Q = 6 then wt else if Q = 7 then dn else if Q = 8 then al else if Q = 9 then (tn : Int) else if Q = 10 then ((pb C 1 0 : Nat) : Int) else -1
set_option maxHeartbeats 1000000 in
set_option maxRecDepth 20000 in
theorem z_X4_bucket {D : va_G} {cI cB cJ cZ : ClassId} {hx hd hc hk hch hb hh ht ha : Nat} {an : Int} {ko : Int} {pg lg : Nat} {wt al dn : Int} {C : Nat → Nat} {K : Nat → Nat} {P Q : Int} (hw : DW C pg lg) (hP : in32 P) (hQ : in32 Q) (hks : KS ko K C pg lg) : ∀ l, Up l yX4_bucket cX4_bucket 3 (some .int) ({ frames := 4, cells := 0, slots := 0, locals := 90 }) D (TY cI cB cJ cZ) [.ref hx, .int (iI P), .int (iI Q)] [oHash hx hd hch hb hh ht ha an, oDisk hd hc hk ko pg lg wt al dn, aN cI hc 65280 C, aN cI hk 255 K] (fun r w1 => r = some (.int (iI (bktF C pg lg P Q))) ∧ ∃ ko2 K2, KS ko2 K2 C pg lg ∧ w1 = [oHash hx hd hch hb hh ht ha an, oDisk hd hc hk ko2 pg lg wt al dn, aN cI hc 65280 C, aN cI hk 255 K2]) := by
  intro l
  refine Up_of (by decide) (Nat.le_of_ble_eq_true rfl) (fun x k hq => ?_)
  have w2 := hw.2.1
  have hkin := kdF_in (C := C) (pg := pg) (lg := lg) (P := P)
  refine v_aload_n (n := 1) k dX4_bucket_0 rfl rfl ?_
  refine v_get (n := 4) k ciX4 0 0 (by decide) fl_X4_10 rfl rfl dX4_bucket_1 rfl ?_
  refine v_iload_n (n := 5) k dX4_bucket_4 rfl rfl ?_
  refine v_upV (n := 8) k [1, 2, 3] 1 (z_X1_kindOf hw hw.2.2.2.2.2.2 hP hks) miX1_kindOf ml_X4_142 (by decide) (by decide) rfl (by decide) rfl rfl rfl rfl (Nat.le_of_ble_eq_true rfl) ⟨Nat.zero_le _, Nat.zero_le _⟩ dX4_bucket_5 rfl ?_
  rintro _ _ ⟨rfl, ko2, K2, hks2, rfl⟩
  dsimp only [wput, List.set, Option.toList, List.nil_append, List.cons_append]
  refine v_iconst (n := 9) k dX4_bucket_8 rfl ?_
  refine v_icmp_eq (n := 12) (t := 14) k (hkin) (⟨by omega, by omega⟩) dX4_bucket_9 (by decide) rfl (fun c_9 => ?_) (fun c_9 => ?_)
  · have h5 := kdF_5 c_9
    have hpe : P = ((P.toNat : Nat) : Int) := by omega
    have hpl : P.toNat < pg := by omega
    refine v_iload_n (n := 15) k dX4_bucket_14 rfl rfl ?_
    by_cases hin : Q < 0 ∨ 2 < Q
    · refine v_tabOut (t := 69) k hQ dX4_bucket_15 hin (by decide) ?_
      refine v_iconst (n := 70) k dX4_bucket_69 rfl ?_
      refine v_iretU k hq ?_ rfl dX4_bucket_70
      exact ⟨by rw [bktF, if_pos c_9, if_neg (by omega), if_neg (by omega), if_neg (by omega)], ko2, K2, hks2, rfl⟩
    · obtain ⟨n, hn, hqn⟩ : ∃ n : Nat, n < 3 ∧ Q = (n : Int) := ⟨Q.toNat, by omega, by omega⟩
      subst hqn
      rcases (by omega : n = 0 ∨ n = 1 ∨ n = 2) with rfl | rfl | rfl
      · refine v_tabIn (t := 40) k hQ dX4_bucket_15 (by decide) (by decide) (by rfl) (by decide) ?_
        refine v_aload_n (n := 41) k dX4_bucket_40 rfl rfl ?_
        refine v_get (n := 44) k ciX4 0 0 (by decide) fl_X4_10 rfl rfl dX4_bucket_41 rfl ?_
        refine v_iload_n (n := 45) k dX4_bucket_44 rfl rfl ?_
        refine v_iconst (n := 46) k dX4_bucket_45 rfl ?_
        refine v_rdVi (n := 49) k [1, 2] 1 (z_X1_at (p := P.toNat) (i := 0) hpe rfl hpl (by omega) w2) miX1_at ml_X4_130 (by decide) (by decide) rfl (by decide) rfl rfl rfl rfl (Nat.le_of_ble_eq_true rfl) ⟨Nat.zero_le _, Nat.zero_le _⟩ dX4_bucket_46 rfl ?_
        refine v_iretU k hq ?_ rfl dX4_bucket_49
        exact ⟨by rw [bktF, if_pos c_9]; rfl, ko2, K2, hks2, rfl⟩
      · refine v_tabIn (t := 50) k hQ dX4_bucket_15 (by decide) (by decide) (by rfl) (by decide) ?_
        refine v_aload_n (n := 51) k dX4_bucket_50 rfl rfl ?_
        refine v_get (n := 54) k ciX4 0 0 (by decide) fl_X4_10 rfl rfl dX4_bucket_51 rfl ?_
        refine v_iload_n (n := 55) k dX4_bucket_54 rfl rfl ?_
        refine v_iconst (n := 56) k dX4_bucket_55 rfl ?_
        refine v_rdVi (n := 59) k [1, 2] 1 (z_X1_at (p := P.toNat) (i := 1) hpe rfl hpl (by omega) w2) miX1_at ml_X4_130 (by decide) (by decide) rfl (by decide) rfl rfl rfl rfl (Nat.le_of_ble_eq_true rfl) ⟨Nat.zero_le _, Nat.zero_le _⟩ dX4_bucket_56 rfl ?_
        refine v_iretU k hq ?_ rfl dX4_bucket_59
        exact ⟨by rw [bktF, if_pos c_9]; rfl, ko2, K2, hks2, rfl⟩
      · refine v_tabIn (t := 60) k hQ dX4_bucket_15 (by decide) (by decide) (by rfl) (by decide) ?_
        refine v_aload_n (n := 61) k dX4_bucket_60 rfl rfl ?_
        refine v_get (n := 64) k ciX4 0 0 (by decide) fl_X4_10 rfl rfl dX4_bucket_61 rfl ?_
        refine v_iload_n (n := 65) k dX4_bucket_64 rfl rfl ?_
        refine v_rdVi (n := 68) k [1, 2] 1 (z_X1_recordBytes (p := P.toNat) hpe hpl w2) miX1_recordBytes ml_X4_148 (by decide) (by decide) rfl (by decide) rfl rfl rfl rfl (Nat.le_of_ble_eq_true rfl) ⟨Nat.zero_le _, Nat.zero_le _⟩ dX4_bucket_65 rfl ?_
        refine v_iretU k hq ?_ rfl dX4_bucket_68
        exact ⟨by rw [bktF, if_pos c_9]; rfl, ko2, K2, hks2, rfl⟩
  · refine v_iconst (n := 13) k dX4_bucket_12 rfl ?_
    refine v_iretU k hq ?_ rfl dX4_bucket_13
    exact ⟨by rw [bktF, if_neg c_9], ko2, K2, hks2, rfl⟩
set_option maxHeartbeats 1000000 in
set_option maxRecDepth 20000 in
theorem z_X4_record {D : va_G} {cI cB cJ cZ : ClassId} {hx hd hc hk hch hb hh ht ha : Nat} {an : Int} {ko : Int} {pg lg : Nat} {wt al dn : Int} {C : Nat → Nat} {K : Nat → Nat} {P R Q J : Int} (hw : DW C pg lg) (hP : in32 P) (hR : in32 R) (hQ : in32 Q) (hJ : in32 J) (hb5 : ∀ p, p < pg → kdN C lg p = 5 → WB C p) (hks : KS ko K C pg lg) : ∀ l, Up l yX4_record cX4_record 7 (some .int) ({ frames := 4, cells := 0, slots := 0, locals := 90 }) D (TY cI cB cJ cZ) [.ref hx, .int (iI P), .int (iI R), .int (iI Q), .int (iI J)] [oHash hx hd hch hb hh ht ha an, oDisk hd hc hk ko pg lg wt al dn, aN cI hc 65280 C, aN cI hk 255 K] (fun r w1 => r = some (.int (iI (recF C pg lg P R Q J))) ∧ ∃ ko2 K2, KS ko2 K2 C pg lg ∧ w1 = [oHash hx hd hch hb hh ht ha an, oDisk hd hc hk ko2 pg lg wt al dn, aN cI hc 65280 C, aN cI hk 255 K2]) := by
  intro l
  refine Up_of (by decide) (Nat.le_of_ble_eq_true rfl) (fun x k hq => ?_)
  obtain ⟨w1, w2, w3, w4, w5, w6, w7⟩ := id hw
  have hkin := kdF_in (C := C) (pg := pg) (lg := lg) (P := P)
  obtain ⟨hr1, hr2⟩ := id hR
  obtain ⟨hj1, hj2⟩ := id hJ
  obtain ⟨hq1, hq2⟩ := id hQ
  refine v_aload_n (n := 1) k dX4_record_0 rfl rfl ?_
  refine v_get (n := 4) k ciX4 0 0 (by decide) fl_X4_10 rfl rfl dX4_record_1 rfl ?_
  refine v_iload_n (n := 5) k dX4_record_4 rfl rfl ?_
  refine v_upV (n := 8) k [1, 2, 3] 1 (z_X1_kindOf hw w7 hP hks) miX1_kindOf ml_X4_142 (by decide) (by decide) rfl (by decide) rfl rfl rfl rfl (Nat.le_of_ble_eq_true rfl) ⟨Nat.zero_le _, Nat.zero_le _⟩ dX4_record_5 rfl ?_
  rintro _ _ ⟨rfl, ko2, K2, hks2, rfl⟩
  dsimp only [wput, List.set, Option.toList, List.nil_append, List.cons_append]
  refine v_iconst (n := 9) k dX4_record_8 rfl ?_
  refine v_icmp_ne (n := 12) (t := 29) k (hkin) (⟨by omega, by omega⟩) dX4_record_9 (by decide) rfl (fun c_9 => ?_) (fun c_9 => ?_)
  · refine v_iconst (n := 30) k dX4_record_29 rfl ?_
    refine v_iretU k hq ?_ rfl dX4_record_30
    exact ⟨by rw [recF, if_neg (by intro h; exact c_9 h.1)], ko2, K2, hks2, rfl⟩
  · have c9 : kdF C pg lg P = 5 := c_9
    have h5 := kdF_5 c9
    have hpe : P = ((P.toNat : Nat) : Int) := by omega
    have hpl : P.toNat < pg := by omega
    have hwb := hb5 _ hpl h5.2.2
    refine v_iload_n (n := 13) k dX4_record_12 rfl rfl ?_
    refine v_if_lt (n := 16) (t := 29) k (⟨by omega, by omega⟩) dX4_record_13 (by decide) rfl (fun c_13 => ?_) (fun c_13 => ?_)
    · refine v_iconst (n := 30) k dX4_record_29 rfl ?_
      refine v_iretU k hq ?_ rfl dX4_record_30
      exact ⟨by rw [recF, if_neg (by omega)], ko2, K2, hks2, rfl⟩
    · refine v_iload_n (n := 17) k dX4_record_16 rfl rfl ?_
      refine v_aload_n (n := 18) k dX4_record_17 rfl rfl ?_
      refine v_get (n := 21) k ciX4 0 0 (by decide) fl_X4_10 rfl rfl dX4_record_18 rfl ?_
      refine v_iload_n (n := 22) k dX4_record_21 rfl rfl ?_
      refine v_iconst (n := 23) k dX4_record_22 rfl ?_
      refine v_rdVi (n := 26) k [1, 2] 1 (z_X1_at (p := P.toNat) (i := 1) hpe rfl hpl (by omega) w2) miX1_at ml_X4_130 (by decide) (by decide) rfl (by decide) rfl rfl rfl rfl (Nat.le_of_ble_eq_true rfl) ⟨Nat.zero_le _, Nat.zero_le _⟩ dX4_record_23 rfl ?_
      have hn256 : pb C P.toNat 1 < 256 := w3 _
      refine v_icmp_lt (n := 29) (t := 31) k (⟨by omega, by omega⟩) (⟨by omega, by omega⟩) dX4_record_26 (by decide) rfl (fun c_26 => ?_) (fun c_26 => ?_)
      · have hf := hwb.fit (r := R.toNat) (by omega)
        have hz9 := rsz_ge C P.toNat (rst C P.toNat R.toNat)
        have hcond : kdF C pg lg P = 5 ∧ 0 ≤ R ∧ R < ((pb C P.toNat 1 : Nat) : Int) := ⟨c9, by omega, by omega⟩
        refine v_aload_n (n := 32) k dX4_record_31 rfl rfl ?_
        refine v_get (n := 35) k ciX4 0 0 (by decide) fl_X4_10 rfl rfl dX4_record_32 rfl ?_
        refine v_iload_n (n := 36) k dX4_record_35 rfl rfl ?_
        refine v_iload_n (n := 37) k dX4_record_36 rfl rfl ?_
        refine v_rdVi (n := 40) k [1, 2] 1 (z_X1_recordStart (p := P.toNat) (n := R.toNat) hpe hpl w2 (by omega) hwb (by omega) w3) miX1_recordStart ml_X4_151 (by decide) (by decide) rfl (by decide) rfl rfl rfl rfl (Nat.le_of_ble_eq_true rfl) ⟨Nat.zero_le _, Nat.zero_le _⟩ dX4_record_37 rfl ?_
        refine v_istore (n := 42) k dX4_record_40 rfl (by decide) rfl rfl ?_
        refine v_aload_n (n := 43) k dX4_record_42 rfl rfl ?_
        refine v_get (n := 46) k ciX4 0 0 (by decide) fl_X4_10 rfl rfl dX4_record_43 rfl ?_
        refine v_iload_n (n := 47) k dX4_record_46 rfl rfl ?_
        refine v_iload (n := 49) k dX4_record_47 rfl rfl ?_
        refine v_rdVi (n := 52) k [1, 2] 1 (z_X1_at (p := P.toNat) (i := rst C P.toNat R.toNat) hpe rfl hpl (by omega) w2) miX1_at ml_X4_130 (by decide) (by decide) rfl (by decide) rfl rfl rfl rfl (Nat.le_of_ble_eq_true rfl) ⟨Nat.zero_le _, Nat.zero_le _⟩ dX4_record_49 rfl ?_
        refine v_istore (n := 54) k dX4_record_52 rfl (by decide) rfl rfl ?_
        refine v_iload_n (n := 55) k dX4_record_54 rfl rfl ?_
        refine v_if_ne (n := 58) (t := 90) k (⟨by omega, by omega⟩) dX4_record_55 (by decide) rfl (fun c_55 => ?_) (fun c_55 => ?_)
        · refine v_iload_n (n := 91) k dX4_record_90 rfl rfl ?_
          refine v_iconst (n := 92) k dX4_record_91 rfl ?_
          refine v_icmp_ne (n := 95) (t := 140) k (⟨by omega, by omega⟩) (⟨by omega, by omega⟩) dX4_record_92 (by decide) rfl (fun c_92 => ?_) (fun c_92 => ?_)
          · refine v_iconst (n := 141) k dX4_record_140 rfl ?_
            refine v_iretU k hq ?_ rfl dX4_record_141
            exact ⟨by rw [recF, if_pos hcond, if_neg (by omega), if_neg (by omega)], ko2, K2, hks2, rfl⟩
          · refine v_iload (n := 97) k dX4_record_95 rfl rfl ?_
            refine v_if_lt (n := 100) (t := 138) k (⟨by omega, by omega⟩) dX4_record_97 (by decide) rfl (fun c_97 => ?_) (fun c_97 => ?_)
            · refine v_iconst (n := 139) k dX4_record_138 rfl ?_
              refine v_iretU k hq ?_ rfl dX4_record_139
              exact ⟨by first | rw [recF, if_pos hcond, if_neg (by omega), if_pos (by omega), if_pos ⟨by omega, by omega⟩] | rw [recF, if_pos hcond, if_neg (by omega), if_pos (by omega), if_neg (by omega)], ko2, K2, hks2, rfl⟩
            · refine v_iload (n := 102) k dX4_record_100 rfl rfl ?_
              refine v_aload_n (n := 103) k dX4_record_102 rfl rfl ?_
              refine v_get (n := 106) k ciX4 0 0 (by decide) fl_X4_10 rfl rfl dX4_record_103 rfl ?_
              refine v_iload_n (n := 107) k dX4_record_106 rfl rfl ?_
              refine v_iload (n := 109) k dX4_record_107 rfl rfl ?_
              refine v_iconst (n := 110) k dX4_record_109 rfl ?_
              refine v_iadd (n := 111) k dX4_record_110 rfl ?_
              refine v_rdVi (n := 114) k [1, 2] 1 (z_X1_at (p := P.toNat) (i := rst C P.toNat R.toNat + 1) hpe (by omega) hpl (by omega) w2) miX1_at ml_X4_130 (by decide) (by decide) rfl (by decide) rfl rfl rfl rfl (Nat.le_of_ble_eq_true rfl) ⟨Nat.zero_le _, Nat.zero_le _⟩ dX4_record_111 rfl ?_
              refine v_icmp_ge (n := 117) (t := 138) k (⟨by omega, by omega⟩) (⟨by omega, by omega⟩) dX4_record_114 (by decide) rfl (fun c_114 => ?_) (fun c_114 => ?_)
              · refine v_iconst (n := 139) k dX4_record_138 rfl ?_
                refine v_iretU k hq ?_ rfl dX4_record_139
                exact ⟨by first | rw [recF, if_pos hcond, if_neg (by omega), if_pos (by omega), if_pos ⟨by omega, by omega⟩] | rw [recF, if_pos hcond, if_neg (by omega), if_pos (by omega), if_neg (by omega)], ko2, K2, hks2, rfl⟩
              · refine v_aload_n (n := 118) k dX4_record_117 rfl rfl ?_
                refine v_get (n := 121) k ciX4 0 0 (by decide) fl_X4_10 rfl rfl dX4_record_118 rfl ?_
                refine v_iload_n (n := 122) k dX4_record_121 rfl rfl ?_
                refine v_iload (n := 124) k dX4_record_122 rfl rfl ?_
                refine v_iconst (n := 125) k dX4_record_124 rfl ?_
                refine v_iadd (n := 126) k dX4_record_125 rfl ?_
                refine v_iload (n := 128) k dX4_record_126 rfl rfl ?_
                refine v_iadd (n := 129) k dX4_record_128 rfl ?_
                refine v_iload (n := 131) k dX4_record_129 rfl rfl ?_
                refine v_iadd (n := 132) k dX4_record_131 rfl ?_
                refine v_rdVi (n := 135) k [1, 2] 1 (z_X1_at (p := P.toNat) (i := rst C P.toNat R.toNat + 2 + pb C P.toNat (rst C P.toNat R.toNat) + J.toNat) hpe (by omega) hpl (by omega) w2) miX1_at ml_X4_130 (by decide) (by decide) rfl (by decide) rfl rfl rfl rfl (Nat.le_of_ble_eq_true rfl) ⟨Nat.zero_le _, Nat.zero_le _⟩ dX4_record_132 rfl ?_
                refine v_goto (t := 139) k dX4_record_135 (by decide) ?_
                refine v_iretU k hq ?_ rfl dX4_record_139
                exact ⟨by first | rw [recF, if_pos hcond, if_neg (by omega), if_pos (by omega), if_pos ⟨by omega, by omega⟩] | rw [recF, if_pos hcond, if_neg (by omega), if_pos (by omega), if_neg (by omega)], ko2, K2, hks2, rfl⟩
        · refine v_iload (n := 60) k dX4_record_58 rfl rfl ?_
          refine v_if_lt (n := 63) (t := 88) k (⟨by omega, by omega⟩) dX4_record_60 (by decide) rfl (fun c_60 => ?_) (fun c_60 => ?_)
          · refine v_iconst (n := 89) k dX4_record_88 rfl ?_
            refine v_iretU k hq ?_ rfl dX4_record_89
            exact ⟨by first | rw [recF, if_pos hcond, if_pos (by omega), if_pos ⟨by omega, by omega⟩] | rw [recF, if_pos hcond, if_pos (by omega), if_neg (by omega)], ko2, K2, hks2, rfl⟩
          · refine v_iload (n := 65) k dX4_record_63 rfl rfl ?_
            refine v_iload (n := 67) k dX4_record_65 rfl rfl ?_
            refine v_icmp_ge (n := 70) (t := 88) k (⟨by omega, by omega⟩) (⟨by omega, by omega⟩) dX4_record_67 (by decide) rfl (fun c_67 => ?_) (fun c_67 => ?_)
            · refine v_iconst (n := 89) k dX4_record_88 rfl ?_
              refine v_iretU k hq ?_ rfl dX4_record_89
              exact ⟨by first | rw [recF, if_pos hcond, if_pos (by omega), if_pos ⟨by omega, by omega⟩] | rw [recF, if_pos hcond, if_pos (by omega), if_neg (by omega)], ko2, K2, hks2, rfl⟩
            · refine v_aload_n (n := 71) k dX4_record_70 rfl rfl ?_
              refine v_get (n := 74) k ciX4 0 0 (by decide) fl_X4_10 rfl rfl dX4_record_71 rfl ?_
              refine v_iload_n (n := 75) k dX4_record_74 rfl rfl ?_
              refine v_iload (n := 77) k dX4_record_75 rfl rfl ?_
              refine v_iconst (n := 78) k dX4_record_77 rfl ?_
              refine v_iadd (n := 79) k dX4_record_78 rfl ?_
              refine v_iload (n := 81) k dX4_record_79 rfl rfl ?_
              refine v_iadd (n := 82) k dX4_record_81 rfl ?_
              refine v_rdVi (n := 85) k [1, 2] 1 (z_X1_at (p := P.toNat) (i := rst C P.toNat R.toNat + 2 + J.toNat) hpe (by omega) hpl (by omega) w2) miX1_at ml_X4_130 (by decide) (by decide) rfl (by decide) rfl rfl rfl rfl (Nat.le_of_ble_eq_true rfl) ⟨Nat.zero_le _, Nat.zero_le _⟩ dX4_record_82 rfl ?_
              refine v_goto (t := 89) k dX4_record_85 (by decide) ?_
              refine v_iretU k hq ?_ rfl dX4_record_89
              exact ⟨by first | rw [recF, if_pos hcond, if_pos (by omega), if_pos ⟨by omega, by omega⟩] | rw [recF, if_pos hcond, if_pos (by omega), if_neg (by omega)], ko2, K2, hks2, rfl⟩
      · refine v_iconst (n := 30) k dX4_record_29 rfl ?_
        refine v_iretU k hq ?_ rfl dX4_record_30
        exact ⟨by rw [recF, if_neg (by omega)], ko2, K2, hks2, rfl⟩
set_option maxHeartbeats 1000000 in
set_option maxRecDepth 20000 in
theorem z_X4_look {D : va_G} {cI cB cJ cZ : ClassId} {hx hd hc hk hch hb hh ht ha : Nat} {an : Int} {ko : Int} {pg lg : Nat} {wt al dn : Int} {C : Nat → Nat} {K : Nat → Nat} {htb tn : Nat} {Q : Int} (hw : DW C pg lg) (hQ : in32 Q) (hdn : dn = 0 ∨ dn = 1) (hks : KS ko K C pg lg) : ∀ l, Up l yX4_look cX4_look 2 (some .int) ({ frames := 5, cells := 0, slots := 0, locals := 113 }) D (TY cI cB cJ cZ) [.ref hx, .int (iI Q)] [oHash hx hd hch hb hh ht ha an, oDisk hd hc hk ko pg lg wt al dn, aN cI hc 65280 C, aN cI hk 255 K, oTape ht htb (tn : Int)] (fun r w1 => r = some (.int (iI (lokF C pg lg wt al dn tn Q))) ∧ ∃ ko2 K2, KS ko2 K2 C pg lg ∧ w1 = [oHash hx hd hch hb hh ht ha an, oDisk hd hc hk ko2 pg lg wt al dn, aN cI hc 65280 C, aN cI hk 255 K2, oTape ht htb (tn : Int)]) := by
  intro l
  refine Up_of (by decide) (Nat.le_of_ble_eq_true rfl) (fun x k hq => ?_)
  obtain ⟨w1, w2, w3, w4, w5, w6, w7⟩ := id hw
  refine v_iload_n (n := 1) k dX4_look_0 rfl rfl ?_
  by_cases hin : Q < 0 ∨ 10 < Q
  · refine v_tabOut (t := 160) k hQ dX4_look_1 hin (by decide) ?_
    refine v_iconst (n := 161) k dX4_look_160 rfl ?_
    refine v_iretU k hq ?_ rfl dX4_look_161
    exact ⟨by unfold lokF; rw [if_neg (by omega), if_neg (by omega), if_neg (by omega), if_neg (by omega), if_neg (by omega), if_neg (by omega), if_neg (by omega), if_neg (by omega), if_neg (by omega), if_neg (by omega), if_neg (by omega)], ko, K, hks, rfl⟩
  · obtain ⟨n, hn, hqn⟩ : ∃ n : Nat, n < 11 ∧ Q = (n : Int) := ⟨Q.toNat, by omega, by omega⟩
    subst hqn
    rcases (by omega : n = 0 ∨ n = 1 ∨ n = 2 ∨ n = 3 ∨ n = 4 ∨ n = 5 ∨ n = 6 ∨ n = 7 ∨ n = 8 ∨ n = 9 ∨ n = 10) with rfl | rfl | rfl | rfl | rfl | rfl | rfl | rfl | rfl | rfl | rfl
    · refine v_tabIn (t := 60) k hQ dX4_look_1 (by decide) (by decide) (by rfl) (by decide) ?_
      refine v_aload_n (n := 61) k dX4_look_60 rfl rfl ?_
      refine v_get (n := 64) k ciX4 0 0 (by decide) fl_X4_10 rfl rfl dX4_look_61 rfl ?_
      refine v_rdVi (n := 67) k [1] 1 (z_X1_pages) miX1_pages ml_X4_154 (by decide) (by decide) rfl (by decide) rfl rfl rfl rfl (Nat.le_of_ble_eq_true rfl) ⟨Nat.zero_le _, Nat.zero_le _⟩ dX4_look_64 rfl ?_
      refine v_iretU k hq ?_ rfl dX4_look_67
      exact ⟨rfl, ko, K, hks, rfl⟩
    · refine v_tabIn (t := 68) k hQ dX4_look_1 (by decide) (by decide) (by rfl) (by decide) ?_
      refine v_aload_n (n := 69) k dX4_look_68 rfl rfl ?_
      refine v_get (n := 72) k ciX4 0 0 (by decide) fl_X4_10 rfl rfl dX4_look_69 rfl ?_
      refine v_rdVi (n := 75) k [1] 1 (z_X1_log) miX1_log ml_X4_157 (by decide) (by decide) rfl (by decide) rfl rfl rfl rfl (Nat.le_of_ble_eq_true rfl) ⟨Nat.zero_le _, Nat.zero_le _⟩ dX4_look_72 rfl ?_
      refine v_iretU k hq ?_ rfl dX4_look_75
      exact ⟨rfl, ko, K, hks, rfl⟩
    · refine v_tabIn (t := 76) k hQ dX4_look_1 (by decide) (by decide) (by rfl) (by decide) ?_
      refine v_aload_n (n := 77) k dX4_look_76 rfl rfl ?_
      refine v_get (n := 80) k ciX4 0 0 (by decide) fl_X4_10 rfl rfl dX4_look_77 rfl ?_
      refine v_rdVi (n := 83) k [1, 2] 1 (z_X1_depth hw) miX1_depth ml_X4_160 (by decide) (by decide) rfl (by decide) rfl rfl rfl rfl (Nat.le_of_ble_eq_true rfl) ⟨Nat.zero_le _, Nat.zero_le _⟩ dX4_look_80 rfl ?_
      refine v_iretU k hq ?_ rfl dX4_look_83
      exact ⟨rfl, ko, K, hks, rfl⟩
    · refine v_tabIn (t := 84) k hQ dX4_look_1 (by decide) (by decide) (by rfl) (by decide) ?_
      refine v_aload_n (n := 85) k dX4_look_84 rfl rfl ?_
      refine v_get (n := 88) k ciX4 0 0 (by decide) fl_X4_10 rfl rfl dX4_look_85 rfl ?_
      refine v_iconst (n := 89) k dX4_look_88 rfl ?_
      refine v_upV (n := 92) k [1, 2, 3] 1 (z_X1_countKind hw w7 (kd := 5) rfl (by omega) hks) miX1_countKind ml_X4_163 (by decide) (by decide) rfl (by decide) rfl rfl rfl rfl (Nat.le_of_ble_eq_true rfl) ⟨Nat.zero_le _, Nat.zero_le _⟩ dX4_look_89 rfl ?_
      rintro _ _ ⟨rfl, ko2, K2, hks2, rfl⟩
      dsimp only [wput, List.set, Option.toList, List.nil_append, List.cons_append]
      refine v_iretU k hq ?_ rfl dX4_look_92
      exact ⟨rfl, ko2, K2, hks2, rfl⟩
    · refine v_tabIn (t := 93) k hQ dX4_look_1 (by decide) (by decide) (by rfl) (by decide) ?_
      refine v_aload_n (n := 94) k dX4_look_93 rfl rfl ?_
      refine v_get (n := 97) k ciX4 0 0 (by decide) fl_X4_10 rfl rfl dX4_look_94 rfl ?_
      refine v_iconst (n := 98) k dX4_look_97 rfl ?_
      refine v_upV (n := 101) k [1, 2, 3] 1 (z_X1_countKind hw w7 (kd := 0) rfl (by omega) hks) miX1_countKind ml_X4_163 (by decide) (by decide) rfl (by decide) rfl rfl rfl rfl (Nat.le_of_ble_eq_true rfl) ⟨Nat.zero_le _, Nat.zero_le _⟩ dX4_look_98 rfl ?_
      rintro _ _ ⟨rfl, ko2, K2, hks2, rfl⟩
      dsimp only [wput, List.set, Option.toList, List.nil_append, List.cons_append]
      refine v_iretU k hq ?_ rfl dX4_look_101
      exact ⟨rfl, ko2, K2, hks2, rfl⟩
    · refine v_tabIn (t := 102) k hQ dX4_look_1 (by decide) (by decide) (by rfl) (by decide) ?_
      refine v_aload_n (n := 103) k dX4_look_102 rfl rfl ?_
      refine v_get (n := 106) k ciX4 0 0 (by decide) fl_X4_10 rfl rfl dX4_look_103 rfl ?_
      refine v_upV (n := 109) k [1, 2, 3] 1 (z_X1_countRecords hw w7 hks) miX1_countRecords ml_X4_166 (by decide) (by decide) rfl (by decide) rfl rfl rfl rfl (Nat.le_of_ble_eq_true rfl) ⟨Nat.zero_le _, Nat.zero_le _⟩ dX4_look_106 rfl ?_
      rintro _ _ ⟨rfl, ko2, K2, hks2, rfl⟩
      dsimp only [wput, List.set, Option.toList, List.nil_append, List.cons_append]
      refine v_iretU k hq ?_ rfl dX4_look_109
      exact ⟨rfl, ko2, K2, hks2, rfl⟩
    · refine v_tabIn (t := 110) k hQ dX4_look_1 (by decide) (by decide) (by rfl) (by decide) ?_
      refine v_aload_n (n := 111) k dX4_look_110 rfl rfl ?_
      refine v_get (n := 114) k ciX4 0 0 (by decide) fl_X4_10 rfl rfl dX4_look_111 rfl ?_
      refine v_rdVi (n := 117) k [1] 1 (z_X1_writes) miX1_writes ml_X4_169 (by decide) (by decide) rfl (by decide) rfl rfl rfl rfl (Nat.le_of_ble_eq_true rfl) ⟨Nat.zero_le _, Nat.zero_le _⟩ dX4_look_114 rfl ?_
      refine v_iretU k hq ?_ rfl dX4_look_117
      exact ⟨rfl, ko, K, hks, rfl⟩
    · refine v_tabIn (t := 118) k hQ dX4_look_1 (by decide) (by decide) (by rfl) (by decide) ?_
      refine v_aload_n (n := 119) k dX4_look_118 rfl rfl ?_
      refine v_get (n := 122) k ciX4 0 0 (by decide) fl_X4_10 rfl rfl dX4_look_119 rfl ?_
      refine v_rdVi (n := 125) k [1] 1 (z_X1_isDown hdn) miX1_isDown ml_X4_83 (by decide) (by decide) rfl (by decide) rfl rfl rfl rfl (Nat.le_of_ble_eq_true rfl) ⟨Nat.zero_le _, Nat.zero_le _⟩ dX4_look_122 rfl ?_
      refine v_if_eq (n := 128) (t := 132) k (⟨by omega, by omega⟩) dX4_look_125 (by decide) rfl (fun c_125 => ?_) (fun c_125 => ?_)
      · refine v_iconst (n := 133) k dX4_look_132 rfl ?_
        refine v_iretU k hq ?_ rfl dX4_look_133
        first
        | (have hd9 : dn = 0 := by omega
           exact ⟨by show _ = some (Value.int (iI dn)); rw [hd9], ko, K, hks, rfl⟩)
        | (have hd9 : dn = 1 := by omega
           exact ⟨by show _ = some (Value.int (iI dn)); rw [hd9], ko, K, hks, rfl⟩)
      · refine v_iconst (n := 129) k dX4_look_128 rfl ?_
        refine v_goto (t := 133) k dX4_look_129 (by decide) ?_
        refine v_iretU k hq ?_ rfl dX4_look_133
        first
        | (have hd9 : dn = 0 := by omega
           exact ⟨by show _ = some (Value.int (iI dn)); rw [hd9], ko, K, hks, rfl⟩)
        | (have hd9 : dn = 1 := by omega
           exact ⟨by show _ = some (Value.int (iI dn)); rw [hd9], ko, K, hks, rfl⟩)
    · refine v_tabIn (t := 134) k hQ dX4_look_1 (by decide) (by decide) (by rfl) (by decide) ?_
      refine v_aload_n (n := 135) k dX4_look_134 rfl rfl ?_
      refine v_get (n := 138) k ciX4 0 0 (by decide) fl_X4_10 rfl rfl dX4_look_135 rfl ?_
      refine v_rdVi (n := 141) k [1] 1 (z_X1_allowed) miX1_allowed ml_X4_172 (by decide) (by decide) rfl (by decide) rfl rfl rfl rfl (Nat.le_of_ble_eq_true rfl) ⟨Nat.zero_le _, Nat.zero_le _⟩ dX4_look_138 rfl ?_
      refine v_iretU k hq ?_ rfl dX4_look_141
      exact ⟨rfl, ko, K, hks, rfl⟩
    · refine v_tabIn (t := 142) k hQ dX4_look_1 (by decide) (by decide) (by rfl) (by decide) ?_
      refine v_aload_n (n := 143) k dX4_look_142 rfl rfl ?_
      refine v_get (n := 146) k ciX4 0 4 (by decide) fl_X4_38 rfl rfl dX4_look_143 rfl ?_
      refine v_rdVi (n := 149) k [4] 4 (z_X3_size) miX3_size ml_X4_67 (by decide) (by decide) rfl (by decide) rfl rfl rfl rfl (Nat.le_of_ble_eq_true rfl) ⟨Nat.zero_le _, Nat.zero_le _⟩ dX4_look_146 rfl ?_
      refine v_iretU k hq ?_ rfl dX4_look_149
      exact ⟨rfl, ko, K, hks, rfl⟩
    · refine v_tabIn (t := 150) k hQ dX4_look_1 (by decide) (by decide) (by rfl) (by decide) ?_
      refine v_aload_n (n := 151) k dX4_look_150 rfl rfl ?_
      refine v_get (n := 154) k ciX4 0 0 (by decide) fl_X4_10 rfl rfl dX4_look_151 rfl ?_
      refine v_iconst (n := 155) k dX4_look_154 rfl ?_
      refine v_iconst (n := 156) k dX4_look_155 rfl ?_
      refine v_rdVi (n := 159) k [1, 2] 1 (z_X1_at (p := 1) (i := 0) rfl rfl (by omega) (by omega) w2) miX1_at ml_X4_130 (by decide) (by decide) rfl (by decide) rfl rfl rfl rfl (Nat.le_of_ble_eq_true rfl) ⟨Nat.zero_le _, Nat.zero_le _⟩ dX4_look_156 rfl ?_
      refine v_iretU k hq ?_ rfl dX4_look_159
      exact ⟨rfl, ko, K, hks, rfl⟩
