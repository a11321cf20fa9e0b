set_option maxHeartbeats 1000000 in
set_option maxRecDepth 20000 in
theorem z_X3_size {D : va_G} {cI cB cJ cZ : ClassId} {ht hb : Nat} {sz : Int}  : ∀ l, Rd l yX3_size cX3_size 1 (some .int) ({ frames := 0, cells := 0, slots := 0, locals := 0 }) D (TY cI cB cJ cZ) [.ref ht] [oTape ht hb sz] (fun v => v = some (.int (iI sz))) := by
  intro l
  refine Rd_of (by decide) (Nat.le_of_ble_eq_true rfl) (fun x k hq => ?_)
  refine v_aload_n (n := 1) k dX3_size_0 rfl rfl ?_
  refine v_get (n := 4) k ciX3 0 1 (by decide) fl_X3_15 rfl rfl dX3_size_1 rfl ?_
  refine v_iretR k hq ?_ dX3_size_4
  rfl
set_option maxHeartbeats 1000000 in
set_option maxRecDepth 20000 in
theorem z_X3_byteAt {D : va_G} {cI cB cJ cZ : ClassId} {ht hb : Nat} {sz : Int} {T : Nat → Nat} {I : Int} {i : Nat} (hI : I = (i : Int)) (hi : i < 48) : ∀ l, Rd l yX3_byteAt cX3_byteAt 2 (some .int) ({ frames := 0, cells := 0, slots := 0, locals := 0 }) D (TY cI cB cJ cZ) [.ref ht, .int (iI I)] [oTape ht hb sz, aN cI hb 48 T] (fun v => v = some (.int (iI ((T i : Nat) : Int)))) := by
  intro l
  refine Rd_of (by decide) (Nat.le_of_ble_eq_true rfl) (fun x k hq => ?_)
  refine v_iload_n (n := 1) k dX3_byteAt_0 rfl rfl ?_
  refine v_if_lt (n := 4) (t := 22) k (⟨by omega, by omega⟩) dX3_byteAt_1 (by decide) rfl (fun c_1 => ?_) (fun c_1 => ?_)
  · exfalso; omega
  · refine v_iload_n (n := 5) k dX3_byteAt_4 rfl rfl ?_
    refine v_aload_n (n := 6) k dX3_byteAt_5 rfl rfl ?_
    refine v_get (n := 9) k ciX3 0 0 (by decide) fl_X3_9 rfl rfl dX3_byteAt_6 rfl ?_
    refine v_alen (n := 10) k 1 0 rfl rfl dX3_byteAt_9 rfl ?_
    refine v_icmp_ge (n := 13) (t := 22) k (⟨by omega, by omega⟩) (⟨by omega, by omega⟩) dX3_byteAt_10 (by decide) rfl (fun c_10 => ?_) (fun c_10 => ?_)
    · exfalso; omega
    · refine v_aload_n (n := 14) k dX3_byteAt_13 rfl rfl ?_
      refine v_get (n := 17) k ciX3 0 0 (by decide) fl_X3_9 rfl rfl dX3_byteAt_14 rfl ?_
      refine v_iload_n (n := 18) k dX3_byteAt_17 rfl rfl ?_
      refine v_ialdN (n := 19) k 1 0 (i) rfl rfl (by omega) (by omega) (by omega) dX3_byteAt_18 rfl ?_
      refine v_goto (t := 23) k dX3_byteAt_19 (by decide) ?_
      refine v_iretR k hq ?_ dX3_byteAt_23
      rfl
set_option maxHeartbeats 1000000 in
set_option maxRecDepth 20000 in
theorem z_X3_append {D : va_G} {cI cB cJ cZ : ClassId} {ht hb : Nat} {sz : Int} {T : Nat → Nat} {V : Int} {v n : Nat} (hV : V = (v : Int)) (hs : sz = (n : Int)) (hn : n < 48) : ∀ l, Up l yX3_append cX3_append 2 none ({ frames := 0, cells := 0, slots := 0, locals := 0 }) D (TY cI cB cJ cZ) [.ref ht, .int (iI V)] [oTape ht hb sz, aN cI hb 48 T] (fun r w1 => r = none ∧ w1 = [oTape ht hb (sz + 1), aN cI hb 48 (upN T n v)]) := by
  intro l
  refine Up_of (by decide) (Nat.le_of_ble_eq_true rfl) (fun x k hq => ?_)
  refine v_aload_n (n := 1) k dX3_append_0 rfl rfl ?_
  refine v_get (n := 4) k ciX3 0 1 (by decide) fl_X3_15 rfl rfl dX3_append_1 rfl ?_
  refine v_if_lt (n := 7) (t := 39) k (⟨by omega, by omega⟩) dX3_append_4 (by decide) rfl (fun c_4 => ?_) (fun c_4 => ?_)
  · exfalso; omega
  · refine v_aload_n (n := 8) k dX3_append_7 rfl rfl ?_
    refine v_get (n := 11) k ciX3 0 1 (by decide) fl_X3_15 rfl rfl dX3_append_8 rfl ?_
    refine v_aload_n (n := 12) k dX3_append_11 rfl rfl ?_
    refine v_get (n := 15) k ciX3 0 0 (by decide) fl_X3_9 rfl rfl dX3_append_12 rfl ?_
    refine v_alen (n := 16) k 1 0 rfl rfl dX3_append_15 rfl ?_
    refine v_icmp_ge (n := 19) (t := 39) k (⟨by omega, by omega⟩) (⟨by omega, by omega⟩) dX3_append_16 (by decide) rfl (fun c_16 => ?_) (fun c_16 => ?_)
    · exfalso; omega
    · refine v_aload_n (n := 20) k dX3_append_19 rfl rfl ?_
      refine v_get (n := 23) k ciX3 0 0 (by decide) fl_X3_9 rfl rfl dX3_append_20 rfl ?_
      refine v_aload_n (n := 24) k dX3_append_23 rfl rfl ?_
      refine v_get (n := 27) k ciX3 0 1 (by decide) fl_X3_15 rfl rfl dX3_append_24 rfl ?_
      refine v_iload_n (n := 28) k dX3_append_27 rfl rfl ?_
      refine v_iastN (n := 29) k 1 0 (n) rfl rfl (by omega) (by omega) (by omega) (v) (by omega) dX3_append_28 rfl ?_
      refine v_aload_n (n := 30) k dX3_append_29 rfl rfl ?_
      refine v_dup (n := 31) k rfl dX3_append_30 rfl ?_
      refine v_get (n := 34) k ciX3 0 1 (by decide) fl_X3_15 rfl rfl dX3_append_31 rfl ?_
      refine v_iconst (n := 35) k dX3_append_34 rfl ?_
      refine v_iadd (n := 36) k dX3_append_35 rfl ?_
      refine v_put (n := 39) k ciX3 0 1 (by decide) fl_X3_15 rfl rfl (rfl) (rfl) (Nat.le_of_ble_eq_true rfl) dX3_append_36 rfl ?_
      refine v_vretU k hq ?_ rfl dX3_append_39
      exact ⟨rfl, rfl⟩
set_option maxHeartbeats 1000000 in
set_option maxRecDepth 20000 in
theorem z_X3_take {D : va_G} {cI cB cJ cZ : ClassId} {ht hb : Nat} {sz : Int}  : ∀ l, Up l yX3_take cX3_take 2 (some .int) ({ frames := 0, cells := 0, slots := 0, locals := 0 }) D (TY cI cB cJ cZ) [.ref ht] [oTape ht hb sz] (fun r w1 => r = some (.int (iI sz)) ∧ w1 = [oTape ht hb 0]) := by
  intro l
  refine Up_of (by decide) (Nat.le_of_ble_eq_true rfl) (fun x k hq => ?_)
  refine v_aload_n (n := 1) k dX3_take_0 rfl rfl ?_
  refine v_get (n := 4) k ciX3 0 1 (by decide) fl_X3_15 rfl rfl dX3_take_1 rfl ?_
  refine v_istore_n (n := 5) k dX3_take_4 rfl (by decide) rfl rfl ?_
  refine v_aload_n (n := 6) k dX3_take_5 rfl rfl ?_
  refine v_iconst (n := 7) k dX3_take_6 rfl ?_
  refine v_put (n := 10) k ciX3 0 1 (by decide) fl_X3_15 rfl rfl (rfl) (rfl) (Nat.le_of_ble_eq_true rfl) dX3_take_7 rfl ?_
  refine v_iload_n (n := 11) k dX3_take_10 rfl rfl ?_
  refine v_iretU k hq ?_ rfl dX3_take_11
  exact ⟨rfl, rfl⟩
set_option maxHeartbeats 1000000 in
set_option maxRecDepth 20000 in
theorem z_X3_keyHash {D : va_G} {cI cB cJ cZ : ClassId} {ht hb : Nat} {sz : Int} {T : Nat → Nat} {Z : Int} {z : Nat} (hZ : Z = (z : Int)) (hz : z ≤ 48) : ∀ l, Rd l yX3_keyHash cX3_keyHash 2 (some .int) ({ frames := 1, cells := 0, slots := 0, locals := 24 }) D (TY cI cB cJ cZ) [.ref ht, .int (iI Z)] [oTape ht hb sz, aN cI hb 48 T] (fun v => v = some (.int (iI ((hsh T 0 z : Nat) : Int)))) := by
  intro l
  refine Rd_of (by decide) (Nat.le_of_ble_eq_true rfl) (fun x k hq => ?_)
  refine v_aload_n (n := 1) k dX3_keyHash_0 rfl rfl ?_
  refine v_get (n := 4) k ciX3 0 0 (by decide) fl_X3_9 rfl rfl dX3_keyHash_1 rfl ?_
  refine v_iconst (n := 5) k dX3_keyHash_4 rfl ?_
  refine v_iload_n (n := 6) k dX3_keyHash_5 rfl rfl ?_
  refine v_rdSNi (n := 9) k [1] (z_X4_hashOf (s := 0) (z := z) rfl hZ (by omega) (by decide)) miX4_hashOf nl_X3_19 (by decide) (by decide) rfl (by decide) rfl rfl (Nat.le_of_ble_eq_true rfl) ⟨Nat.zero_le _, Nat.zero_le _⟩ dX3_keyHash_6 rfl ?_
  refine v_iretR k hq ?_ dX3_keyHash_9
  rfl
set_option maxHeartbeats 1000000 in
set_option maxRecDepth 20000 in
theorem z_X2_bytes {D : va_G} {cI cB cJ cZ : ClassId} {hp hb : Nat}  : ∀ l, Rd l yX2_bytes cX2_bytes 1 (some (.array .int)) ({ frames := 0, cells := 0, slots := 0, locals := 0 }) D (TY cI cB cJ cZ) [.ref hp] [oPage hp hb] (fun v => v = some (.ref hb)) := by
  intro l
  refine Rd_of (by decide) (Nat.le_of_ble_eq_true rfl) (fun x k hq => ?_)
  refine v_aload_n (n := 1) k dX2_bytes_0 rfl rfl ?_
  refine v_get (n := 4) k ciX2 0 0 (by decide) fl_X2_9 rfl rfl dX2_bytes_1 rfl ?_
  refine v_aretR k hq ?_ dX2_bytes_4
  rfl
set_option maxHeartbeats 1000000 in
set_option maxRecDepth 20000 in
theorem z_X2_byteAt {D : va_G} {cI cB cJ cZ : ClassId} {hp hb : Nat} {f : Nat → Nat} {I : Int} {i : Nat} (hI : I = (i : Int)) (hi : i < 256) : ∀ l, Rd l yX2_byteAt cX2_byteAt 2 (some .int) ({ frames := 0, cells := 0, slots := 0, locals := 0 }) D (TY cI cB cJ cZ) [.ref hp, .int (iI I)] [oPage hp hb, aN cI hb 256 f] (fun v => v = some (.int (iI ((f i : Nat) : Int)))) := by
  intro l
  refine Rd_of (by decide) (Nat.le_of_ble_eq_true rfl) (fun x k hq => ?_)
  refine v_iload_n (n := 1) k dX2_byteAt_0 rfl rfl ?_
  refine v_if_lt (n := 4) (t := 22) k (⟨by omega, by omega⟩) dX2_byteAt_1 (by decide) rfl (fun c_1 => ?_) (fun c_1 => ?_)
  · exfalso; omega
  · refine v_iload_n (n := 5) k dX2_byteAt_4 rfl rfl ?_
    refine v_aload_n (n := 6) k dX2_byteAt_5 rfl rfl ?_
    refine v_get (n := 9) k ciX2 0 0 (by decide) fl_X2_9 rfl rfl dX2_byteAt_6 rfl ?_
    refine v_alen (n := 10) k 1 0 rfl rfl dX2_byteAt_9 rfl ?_
    refine v_icmp_ge (n := 13) (t := 22) k (⟨by omega, by omega⟩) (⟨by omega, by omega⟩) dX2_byteAt_10 (by decide) rfl (fun c_10 => ?_) (fun c_10 => ?_)
    · exfalso; omega
    · refine v_aload_n (n := 14) k dX2_byteAt_13 rfl rfl ?_
      refine v_get (n := 17) k ciX2 0 0 (by decide) fl_X2_9 rfl rfl dX2_byteAt_14 rfl ?_
      refine v_iload_n (n := 18) k dX2_byteAt_17 rfl rfl ?_
      refine v_ialdN (n := 19) k 1 0 (i) rfl rfl (by omega) (by omega) (by omega) dX2_byteAt_18 rfl ?_
      refine v_goto (t := 23) k dX2_byteAt_19 (by decide) ?_
      refine v_iretR k hq ?_ dX2_byteAt_23
      rfl
set_option maxHeartbeats 1000000 in
set_option maxRecDepth 20000 in
theorem z_X2_set {D : va_G} {cI cB cJ cZ : ClassId} {hp hb : Nat} {f : Nat → Nat} {I V : Int} {i v : Nat} (hI : I = (i : Int)) (hV : V = (v : Int)) (hi : i < 256) : ∀ l, Up l yX2_set cX2_set 3 none ({ frames := 0, cells := 0, slots := 0, locals := 0 }) D (TY cI cB cJ cZ) [.ref hp, .int (iI I), .int (iI V)] [oPage hp hb, aN cI hb 256 f] (fun r w1 => r = none ∧ w1 = [oPage hp hb, aN cI hb 256 (upN f i (v % 256))]) := by
  intro l
  refine Up_of (by decide) (Nat.le_of_ble_eq_true rfl) (fun x k hq => ?_)
  refine v_iload_n (n := 1) k dX2_set_0 rfl rfl ?_
  refine v_if_lt (n := 4) (t := 24) k (⟨by omega, by omega⟩) dX2_set_1 (by decide) rfl (fun c_1 => ?_) (fun c_1 => ?_)
  · exfalso; omega
  · refine v_iload_n (n := 5) k dX2_set_4 rfl rfl ?_
    refine v_aload_n (n := 6) k dX2_set_5 rfl rfl ?_
    refine v_get (n := 9) k ciX2 0 0 (by decide) fl_X2_9 rfl rfl dX2_set_6 rfl ?_
    refine v_alen (n := 10) k 1 0 rfl rfl dX2_set_9 rfl ?_
    refine v_icmp_ge (n := 13) (t := 24) k (⟨by omega, by omega⟩) (⟨by omega, by omega⟩) dX2_set_10 (by decide) rfl (fun c_10 => ?_) (fun c_10 => ?_)
    · exfalso; omega
    · refine v_aload_n (n := 14) k dX2_set_13 rfl rfl ?_
      refine v_get (n := 17) k ciX2 0 0 (by decide) fl_X2_9 rfl rfl dX2_set_14 rfl ?_
      refine v_iload_n (n := 18) k dX2_set_17 rfl rfl ?_
      refine v_iload_n (n := 19) k dX2_set_18 rfl rfl ?_
      refine v_sipush (n := 22) k dX2_set_19 (by decide) rfl ?_
      refine v_iand (n := 23) k (((v % 256 : Nat) : Int)) (ax_m8 hV) dX2_set_22 rfl ?_
      refine v_iastN (n := 24) k 1 0 (i) rfl rfl (by omega) (by omega) (by omega) (v % 256) (by omega) dX2_set_23 rfl ?_
      refine v_vretU k hq ?_ rfl dX2_set_24
      exact ⟨rfl, rfl⟩
set_option maxHeartbeats 1000000 in
set_option maxRecDepth 20000 in
theorem z_X2_clear {D : va_G} {cI cB cJ cZ : ClassId} {hp hb : Nat} {f : Nat → Nat}  : ∀ l, Up l yX2_clear cX2_clear 1 none ({ frames := 1, cells := 0, slots := 0, locals := 23 }) D (TY cI cB cJ cZ) [.ref hp] [oPage hp hb, aN cI hb 256 f] (fun r w1 => r = none ∧ w1 = [oPage hp hb, aN cI hb 256 (fun _ => 0)]) := by
  intro l
  refine Up_of (by decide) (Nat.le_of_ble_eq_true rfl) (fun x k hq => ?_)
  refine v_aload_n (n := 1) k dX2_clear_0 rfl rfl ?_
  refine v_get (n := 4) k ciX2 0 0 (by decide) fl_X2_9 rfl rfl dX2_clear_1 rfl ?_
  refine v_iconst (n := 5) k dX2_clear_4 rfl ?_
  refine v_upS (n := 8) k [1] (z_J7_fill (v := 0) rfl (by decide)) miJ7_fill_53178 ml_X2_15 (by decide) (by decide) rfl (by decide) rfl rfl (Nat.le_of_ble_eq_true rfl) ⟨Nat.zero_le _, Nat.zero_le _⟩ dX2_clear_5 rfl ?_
  rintro _ _ ⟨rfl, rfl⟩
  dsimp only [wput, List.set, Option.toList, List.nil_append, List.cons_append]
  refine v_vretU k hq ?_ rfl dX2_clear_8
  exact ⟨rfl, rfl⟩
set_option maxHeartbeats 1000000 in
set_option maxRecDepth 20000 in
theorem z_X2_startBucket {D : va_G} {cI cB cJ cZ : ClassId} {hp hb : Nat} {f : Nat → Nat} {V : Int} {v : Nat} (hV : V = (v : Int)) : ∀ l, Up l yX2_startBucket cX2_startBucket 2 none ({ frames := 2, cells := 0, slots := 0, locals := 43 }) D (TY cI cB cJ cZ) [.ref hp, .int (iI V)] [oPage hp hb, aN cI hb 256 f] (fun r w1 => r = none ∧ w1 = [oPage hp hb, aN cI hb 256 (upN (fun _ => 0) 0 (v % 256))]) := by
  intro l
  refine Up_of (by decide) (Nat.le_of_ble_eq_true rfl) (fun x k hq => ?_)
  refine v_aload_n (n := 1) k dX2_startBucket_0 rfl rfl ?_
  refine v_upV (n := 4) k [0, 1] 0 (z_X2_clear) miX2_clear ml_X2_21 (by decide) (by decide) rfl (by decide) rfl rfl rfl rfl (Nat.le_of_ble_eq_true rfl) ⟨Nat.zero_le _, Nat.zero_le _⟩ dX2_startBucket_1 rfl ?_
  rintro _ _ ⟨rfl, rfl⟩
  dsimp only [wput, List.set, Option.toList, List.nil_append, List.cons_append]
  refine v_aload_n (n := 5) k dX2_startBucket_4 rfl rfl ?_
  refine v_iconst (n := 6) k dX2_startBucket_5 rfl ?_
  refine v_iload_n (n := 7) k dX2_startBucket_6 rfl rfl ?_
  refine v_upV (n := 10) k [0, 1] 0 (z_X2_set (i := 0) (v := v) rfl hV (by decide)) miX2_set ml_X2_24 (by decide) (by decide) rfl (by decide) rfl rfl rfl rfl (Nat.le_of_ble_eq_true rfl) ⟨Nat.zero_le _, Nat.zero_le _⟩ dX2_startBucket_7 rfl ?_
  rintro _ _ ⟨rfl, rfl⟩
  dsimp only [wput, List.set, Option.toList, List.nil_append, List.cons_append]
  refine v_vretU k hq ?_ rfl dX2_startBucket_10
  exact ⟨rfl, rfl⟩
set_option maxHeartbeats 1000000 in
set_option maxRecDepth 20000 in
theorem z_X2_countRecord {D : va_G} {cI cB cJ cZ : ClassId} {hp hb : Nat} {f : Nat → Nat} {V : Int} {v : Nat} (hV : V = (v : Int)) (h2 : f 2 < 256) (h3 : f 3 < 256) (h1 : f 1 < 256) (hv : v < 1000) : ∀ l, Up l yX2_countRecord cX2_countRecord 3 (some .int) ({ frames := 1, cells := 0, slots := 0, locals := 22 }) D (TY cI cB cJ cZ) [.ref hp, .int (iI V)] [oPage hp hb, aN cI hb 256 f] (fun r w1 => r = some (.int (iI ((4 + (f 2 * 256 + f 3) : Nat) : Int))) ∧ w1 = [oPage hp hb, aN cI hb 256 (upN (upN (upN f 1 ((f 1 + 1) % 256)) 2 ((f 2 * 256 + f 3 + v) / 256 % 256)) 3 ((f 2 * 256 + f 3 + v) % 256 % 256))]) := by
  intro l
  refine Up_of (by decide) (Nat.le_of_ble_eq_true rfl) (fun x k hq => ?_)
  refine v_aload_n (n := 1) k dX2_countRecord_0 rfl rfl ?_
  refine v_iconst (n := 2) k dX2_countRecord_1 rfl ?_
  refine v_rdVi (n := 5) k [0, 1] 0 (z_X2_byteAt (i := 2) rfl (by decide)) miX2_byteAt ml_X2_46 (by decide) (by decide) rfl (by decide) rfl rfl rfl rfl (Nat.le_of_ble_eq_true rfl) ⟨Nat.zero_le _, Nat.zero_le _⟩ dX2_countRecord_2 rfl ?_
  refine v_sipush (n := 8) k dX2_countRecord_5 (by decide) rfl ?_
  refine v_imul (n := 9) k dX2_countRecord_8 rfl ?_
  refine v_aload_n (n := 10) k dX2_countRecord_9 rfl rfl ?_
  refine v_iconst (n := 11) k dX2_countRecord_10 rfl ?_
  refine v_rdVi (n := 14) k [0, 1] 0 (z_X2_byteAt (i := 3) rfl (by decide)) miX2_byteAt ml_X2_46 (by decide) (by decide) rfl (by decide) rfl rfl rfl rfl (Nat.le_of_ble_eq_true rfl) ⟨Nat.zero_le _, Nat.zero_le _⟩ dX2_countRecord_11 rfl ?_
  refine v_iadd (n := 15) k dX2_countRecord_14 rfl ?_
  refine v_istore_n (n := 16) k dX2_countRecord_15 rfl (by decide) rfl rfl ?_
  refine v_aload_n (n := 17) k dX2_countRecord_16 rfl rfl ?_
  refine v_iconst (n := 18) k dX2_countRecord_17 rfl ?_
  refine v_aload_n (n := 19) k dX2_countRecord_18 rfl rfl ?_
  refine v_iconst (n := 20) k dX2_countRecord_19 rfl ?_
  refine v_rdVi (n := 23) k [0, 1] 0 (z_X2_byteAt (i := 1) rfl (by decide)) miX2_byteAt ml_X2_46 (by decide) (by decide) rfl (by decide) rfl rfl rfl rfl (Nat.le_of_ble_eq_true rfl) ⟨Nat.zero_le _, Nat.zero_le _⟩ dX2_countRecord_20 rfl ?_
  refine v_iconst (n := 24) k dX2_countRecord_23 rfl ?_
  refine v_iadd (n := 25) k dX2_countRecord_24 rfl ?_
  refine v_upV (n := 28) k [0, 1] 0 (z_X2_set (i := 1) (v := f 1 + 1) rfl rfl (by decide)) miX2_set ml_X2_24 (by decide) (by decide) rfl (by decide) rfl rfl rfl rfl (Nat.le_of_ble_eq_true rfl) ⟨Nat.zero_le _, Nat.zero_le _⟩ dX2_countRecord_25 rfl ?_
  rintro _ _ ⟨rfl, rfl⟩
  dsimp only [wput, List.set, Option.toList, List.nil_append, List.cons_append]
  refine v_aload_n (n := 29) k dX2_countRecord_28 rfl rfl ?_
  refine v_iconst (n := 30) k dX2_countRecord_29 rfl ?_
  refine v_iload_n (n := 31) k dX2_countRecord_30 rfl rfl ?_
  refine v_iload_n (n := 32) k dX2_countRecord_31 rfl rfl ?_
  refine v_iadd (n := 33) k dX2_countRecord_32 rfl ?_
  refine v_sipush (n := 36) k dX2_countRecord_33 (by decide) rfl ?_
  refine v_idiv (n := 37) k ((((f 2 * 256 + f 3 + v) / 256 : Nat) : Int)) (ax_ne0 (by omega) (by omega)) (ax_div (by omega) rfl (by omega) (by omega) (by omega)) dX2_countRecord_36 rfl ?_
  refine v_upV (n := 40) k [0, 1] 0 (z_X2_set (i := 2) (v := (f 2 * 256 + f 3 + v) / 256) rfl rfl (by decide)) miX2_set ml_X2_24 (by decide) (by decide) rfl (by decide) rfl rfl rfl rfl (Nat.le_of_ble_eq_true rfl) ⟨Nat.zero_le _, Nat.zero_le _⟩ dX2_countRecord_37 rfl ?_
  rintro _ _ ⟨rfl, rfl⟩
  dsimp only [wput, List.set, Option.toList, List.nil_append, List.cons_append]
  refine v_aload_n (n := 41) k dX2_countRecord_40 rfl rfl ?_
  refine v_iconst (n := 42) k dX2_countRecord_41 rfl ?_
  refine v_iload_n (n := 43) k dX2_countRecord_42 rfl rfl ?_
  refine v_iload_n (n := 44) k dX2_countRecord_43 rfl rfl ?_
  refine v_iadd (n := 45) k dX2_countRecord_44 rfl ?_
  refine v_sipush (n := 48) k dX2_countRecord_45 (by decide) rfl ?_
  refine v_irem (n := 49) k ((((f 2 * 256 + f 3 + v) % 256 : Nat) : Int)) (ax_ne0 (by omega) (by omega)) (ax_rem (by omega) rfl (by omega) (by omega) (by omega)) dX2_countRecord_48 rfl ?_
  refine v_upV (n := 52) k [0, 1] 0 (z_X2_set (i := 3) (v := (f 2 * 256 + f 3 + v) % 256) rfl rfl (by decide)) miX2_set ml_X2_24 (by decide) (by decide) rfl (by decide) rfl rfl rfl rfl (Nat.le_of_ble_eq_true rfl) ⟨Nat.zero_le _, Nat.zero_le _⟩ dX2_countRecord_49 rfl ?_
  rintro _ _ ⟨rfl, rfl⟩
  dsimp only [wput, List.set, Option.toList, List.nil_append, List.cons_append]
  refine v_iconst (n := 53) k dX2_countRecord_52 rfl ?_
  refine v_iload_n (n := 54) k dX2_countRecord_53 rfl rfl ?_
  refine v_iadd (n := 55) k dX2_countRecord_54 rfl ?_
  refine v_iretU k hq ?_ rfl dX2_countRecord_55
  exact ⟨congrArg (fun z => some (Value.int (iI z))) (by omega), rfl⟩
