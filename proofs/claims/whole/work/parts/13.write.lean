/-- the disk with page p written -/
def wrp (C : Nat → Nat) (p : Nat) (f : Nat → Nat) : Nat → Nat := cpN f C 0 (p * 256) 256
def alW (al : Int) : Int := if 0 < al then al - 1 else al
def koW (ko : Int) (p : Nat) (K : Nat → Nat) : Int := if p = 0 ∨ K p = 4 then 1 else ko
def mkN (K : Nat → Nat) (pg p v : Nat) : Nat → Nat := if p < pg then upN K p v else K
set_option maxHeartbeats 1000000 in
set_option maxRecDepth 20000 in
theorem z_X1_place {D : va_G} {cI cB cJ cZ : ClassId} {hd hc hk : Nat} {ko : Int} {pg lg : Nat} {wt al dn : Int} {C : Nat → Nat} {hp hb : Nat} {f : Nat → Nat} {P : Int} {p : Nat} (hP : P = (p : Int)) (hp9 : p < pg) (hg : pg ≤ 255) : ∀ l, Up l yX1_place cX1_place 3 none ({ frames := 1, cells := 0, slots := 0, locals := 40 }) D (TY cI cB cJ cZ) [.ref hd, .int (iI P), .ref hp] [oDisk hd hc hk ko pg lg wt al dn, aN cI hc 65280 C, oPage hp hb, aN cI hb 256 f] (fun r w1 => r = none ∧ w1 = [oDisk hd hc hk ko pg lg wt al dn, aN cI hc 65280 (wrp C p f), oPage hp hb, aN cI hb 256 f]) := by
  intro l
  refine Up_of (by decide) (Nat.le_of_ble_eq_true rfl) (fun x k hq => ?_)
  have hpI : in32 P := ⟨by omega, by omega⟩
  have hpg : pgF pg P = true := decide_eq_true (by omega)
  refine v_aload_n (n := 1) k dX1_place_0 rfl rfl ?_
  refine v_iload_n (n := 2) k dX1_place_1 rfl rfl ?_
  refine v_rdVi (n := 5) k [0] 0 (z_X1_isPage hpI hg) miX1_isPage ml_X1_50 (by decide) (by decide) rfl (by decide) rfl rfl rfl rfl (Nat.le_of_ble_eq_true rfl) ⟨Nat.zero_le _, Nat.zero_le _⟩ dX1_place_2 rfl ?_
  refine v_if_eq (n := 8) (t := 28) k (⟨by rw [bI_t hpg]; omega, by rw [bI_t hpg]; omega⟩) dX1_place_5 (by decide) rfl (fun c_5 => ?_) (fun c_5 => ?_)
  · exfalso; rw [bI_t hpg] at c_5; omega
  · refine v_aload_n (n := 9) k dX1_place_8 rfl rfl ?_
    refine v_rdVi (n := 12) k [2] 2 (z_X2_bytes) miX2_bytes ml_X1_54 (by decide) (by decide) rfl (by decide) rfl rfl rfl rfl (Nat.le_of_ble_eq_true rfl) ⟨Nat.zero_le _, Nat.zero_le _⟩ dX1_place_9 rfl ?_
    refine v_iconst (n := 13) k dX1_place_12 rfl ?_
    refine v_aload_n (n := 14) k dX1_place_13 rfl rfl ?_
    refine v_get (n := 17) k ciX1 0 0 (by decide) fl_X1_10 rfl rfl dX1_place_14 rfl ?_
    refine v_iload_n (n := 18) k dX1_place_17 rfl rfl ?_
    refine v_sipush (n := 21) k dX1_place_18 (by decide) rfl ?_
    refine v_imul (n := 22) k dX1_place_21 rfl ?_
    refine v_sipush (n := 25) k dX1_place_22 (by decide) rfl ?_
    refine v_copyN (n := 28) k ml_X1_58 3 1 0 rfl rfl rfl (0) (p * 256) (256) (by omega) (by omega) (by omega) (by omega) (by omega) (by decide) (by decide) (by decide) (by decide) dX1_place_25 rfl ?_
    refine v_vretU k hq ?_ rfl dX1_place_28
    exact ⟨rfl, rfl⟩
set_option maxHeartbeats 1000000 in
set_option maxRecDepth 20000 in
theorem z_X1_read {D : va_G} {cI cB cJ cZ : ClassId} {hd hc hk : Nat} {ko : Int} {pg lg : Nat} {wt al dn : Int} {C : Nat → Nat} {hp hb : Nat} {f : Nat → Nat} {P : Int} {p : Nat} (hP : P = (p : Int)) (hp9 : p < pg) (hg : pg ≤ 255) : ∀ l, Up l yX1_read cX1_read 3 none ({ frames := 1, cells := 0, slots := 0, locals := 40 }) D (TY cI cB cJ cZ) [.ref hd, .int (iI P), .ref hp] [oDisk hd hc hk ko pg lg wt al dn, aN cI hc 65280 C, oPage hp hb, aN cI hb 256 f] (fun r w1 => r = none ∧ w1 = [oDisk hd hc hk ko pg lg wt al dn, aN cI hc 65280 C, oPage hp hb, aN cI hb 256 (pb C p)]) := by
  intro l
  refine Up_of (by decide) (Nat.le_of_ble_eq_true rfl) (fun x k hq => ?_)
  have hpI : in32 P := ⟨by omega, by omega⟩
  have hpg : pgF pg P = true := decide_eq_true (by omega)
  refine v_aload_n (n := 1) k dX1_read_0 rfl rfl ?_
  refine v_iload_n (n := 2) k dX1_read_1 rfl rfl ?_
  refine v_rdVi (n := 5) k [0] 0 (z_X1_isPage hpI hg) miX1_isPage ml_X1_50 (by decide) (by decide) rfl (by decide) rfl rfl rfl rfl (Nat.le_of_ble_eq_true rfl) ⟨Nat.zero_le _, Nat.zero_le _⟩ dX1_read_2 rfl ?_
  refine v_if_eq (n := 8) (t := 28) k (⟨by rw [bI_t hpg]; omega, by rw [bI_t hpg]; omega⟩) dX1_read_5 (by decide) rfl (fun c_5 => ?_) (fun c_5 => ?_)
  · exfalso; rw [bI_t hpg] at c_5; omega
  · refine v_aload_n (n := 9) k dX1_read_8 rfl rfl ?_
    refine v_get (n := 12) k ciX1 0 0 (by decide) fl_X1_10 rfl rfl dX1_read_9 rfl ?_
    refine v_iload_n (n := 13) k dX1_read_12 rfl rfl ?_
    refine v_sipush (n := 16) k dX1_read_13 (by decide) rfl ?_
    refine v_imul (n := 17) k dX1_read_16 rfl ?_
    refine v_aload_n (n := 18) k dX1_read_17 rfl rfl ?_
    refine v_rdVi (n := 21) k [2] 2 (z_X2_bytes) miX2_bytes ml_X1_54 (by decide) (by decide) rfl (by decide) rfl rfl rfl rfl (Nat.le_of_ble_eq_true rfl) ⟨Nat.zero_le _, Nat.zero_le _⟩ dX1_read_18 rfl ?_
    refine v_iconst (n := 22) k dX1_read_21 rfl ?_
    refine v_sipush (n := 25) k dX1_read_22 (by decide) rfl ?_
    refine v_copyN (n := 28) k ml_X1_58 1 3 0 rfl rfl rfl (p * 256) (0) (256) (by omega) (by omega) (by omega) (by omega) (by omega) (by decide) (by decide) (by decide) (by decide) dX1_read_25 rfl ?_
    refine v_cg 3 (fun j => iI ((pb C p j : Nat) : Int)) rfl (fun j hj => by rw [cpN, if_pos ⟨by omega, by omega⟩]; rfl) ?_
    refine v_vretU k hq ?_ rfl dX1_read_28
    exact ⟨rfl, rfl⟩
set_option maxHeartbeats 1000000 in
set_option maxRecDepth 20000 in
theorem z_X1_write {D : va_G} {cI cB cJ cZ : ClassId} {hd hc hk : Nat} {ko : Int} {pg lg : Nat} {wt al dn : Int} {C : Nat → Nat} {K : Nat → Nat} {hp hb : Nat} {f : Nat → Nat} {P : Int} {p : Nat} (hP : P = (p : Int)) (hp9 : p < pg) (hg : pg ≤ 255) (hK : ∀ j, K j < 256) (ha : in32 al) : ∀ l, Up l yX1_write cX1_write 3 (some .boolean) ({ frames := 2, cells := 0, slots := 0, locals := 62 }) D (TY cI cB cJ cZ) [.ref hd, .int (iI P), .ref hp] [oDisk hd hc hk ko pg lg wt al dn, aN cI hc 65280 C, aN cI hk 255 K, oPage hp hb, aN cI hb 256 f] (fun r w1 => (al = 0 → r = some (.int (iI 0)) ∧ w1 = [oDisk hd hc hk ko pg lg wt al 1, aN cI hc 65280 C, aN cI hk 255 K, oPage hp hb, aN cI hb 256 f]) ∧ (al ≠ 0 → r = some (.int (iI 1)) ∧ w1 = [oDisk hd hc hk (koW ko p K) pg lg (wt + 1) (alW al) dn, aN cI hc 65280 (wrp C p f), aN cI hk 255 K, oPage hp hb, aN cI hb 256 f])) := by
  intro l
  refine Up_of (by decide) (Nat.le_of_ble_eq_true rfl) (fun x k hq => ?_)
  have hpI : in32 P := ⟨by omega, by omega⟩
  have hpg : pgF pg P = true := decide_eq_true (by omega)
  obtain ⟨ha1, ha2⟩ := ha
  refine v_aload_n (n := 1) k dX1_write_0 rfl rfl ?_
  refine v_get (n := 4) k ciX1 0 6 (by decide) fl_X1_64 rfl rfl dX1_write_1 rfl ?_
  refine v_if_ne (n := 7) (t := 14) k (⟨by omega, by omega⟩) dX1_write_4 (by decide) rfl (fun c_4 => ?_) (fun c_4 => ?_)
  · refine v_aload_n (n := 15) k dX1_write_14 rfl rfl ?_
    refine v_get (n := 18) k ciX1 0 6 (by decide) fl_X1_64 rfl rfl dX1_write_15 rfl ?_
    refine v_if_le (n := 21) (t := 31) k (⟨by omega, by omega⟩) dX1_write_18 (by decide) rfl (fun c_18 => ?_) (fun c_18 => ?_)
    · refine v_aload_n (n := 32) k dX1_write_31 rfl rfl ?_
      refine v_dup (n := 33) k rfl dX1_write_32 rfl ?_
      refine v_get (n := 36) k ciX1 0 5 (by decide) fl_X1_26 rfl rfl dX1_write_33 rfl ?_
      refine v_iconst (n := 37) k dX1_write_36 rfl ?_
      refine v_iadd (n := 38) k dX1_write_37 rfl ?_
      refine v_put (n := 41) k ciX1 0 5 (by decide) fl_X1_26 rfl rfl (rfl) (rfl) (Nat.le_of_ble_eq_true rfl) dX1_write_38 rfl ?_
      refine v_iload_n (n := 42) k dX1_write_41 rfl rfl ?_
      refine v_if_eq (n := 45) (t := 63) k (⟨by omega, by omega⟩) dX1_write_42 (by decide) rfl (fun c_42 => ?_) (fun c_42 => ?_)
      · refine v_aload_n (n := 64) k dX1_write_63 rfl rfl ?_
        refine v_iconst (n := 65) k dX1_write_64 rfl ?_
        refine v_put (n := 68) k ciX1 0 2 (by decide) fl_X1_33 rfl rfl (rfl) (rfl) (Nat.le_of_ble_eq_true rfl) dX1_write_65 rfl ?_
        refine v_aload_n (n := 69) k dX1_write_68 rfl rfl ?_
        refine v_iload_n (n := 70) k dX1_write_69 rfl rfl ?_
        refine v_aload_n (n := 71) k dX1_write_70 rfl rfl ?_
        refine v_upV (n := 74) k [0, 1, 3, 4] 0 (z_X1_place (p := p) hP hp9 hg) miX1_place ml_X1_42 (by decide) (by decide) rfl (by decide) rfl rfl rfl rfl (Nat.le_of_ble_eq_true rfl) ⟨Nat.zero_le _, Nat.zero_le _⟩ dX1_write_71 rfl ?_
        rintro _ _ ⟨rfl, rfl⟩
        dsimp only [wput, List.set, Option.toList, List.nil_append, List.cons_append]
        refine v_iconst (n := 75) k dX1_write_74 rfl ?_
        refine v_zretU k (by decide) hq ?_ rfl dX1_write_75
        refine ⟨fun h => absurd h (by omega), fun _ => ⟨rfl, ?_⟩⟩
        first | rw [alW, if_pos (by omega)] | rw [alW, if_neg (by omega)]
        first | rw [koW, if_pos (by omega)] | rw [koW, if_neg (by omega)]
        try rfl
      · refine v_aload_n (n := 46) k dX1_write_45 rfl rfl ?_
        refine v_iload_n (n := 47) k dX1_write_46 rfl rfl ?_
        refine v_rdVi (n := 50) k [0] 0 (z_X1_isPage hpI hg) miX1_isPage ml_X1_50 (by decide) (by decide) rfl (by decide) rfl rfl rfl rfl (Nat.le_of_ble_eq_true rfl) ⟨Nat.zero_le _, Nat.zero_le _⟩ dX1_write_47 rfl ?_
        refine v_if_eq (n := 53) (t := 68) k (⟨by rw [bI_t hpg]; omega, by rw [bI_t hpg]; omega⟩) dX1_write_50 (by decide) rfl (fun c_50 => ?_) (fun c_50 => ?_)
        · exfalso; rw [bI_t hpg] at c_50; omega
        · have hk9 := hK p
          refine v_aload_n (n := 54) k dX1_write_53 rfl rfl ?_
          refine v_get (n := 57) k ciX1 0 1 (by decide) fl_X1_16 rfl rfl dX1_write_54 rfl ?_
          refine v_iload_n (n := 58) k dX1_write_57 rfl rfl ?_
          refine v_ialdN (n := 59) k 2 0 (p) rfl rfl (by omega) (by omega) (by omega) dX1_write_58 rfl ?_
          refine v_iconst (n := 60) k dX1_write_59 rfl ?_
          refine v_icmp_ne (n := 63) (t := 68) k (⟨by omega, by omega⟩) (⟨by omega, by omega⟩) dX1_write_60 (by decide) rfl (fun c_60 => ?_) (fun c_60 => ?_)
          · refine v_aload_n (n := 69) k dX1_write_68 rfl rfl ?_
            refine v_iload_n (n := 70) k dX1_write_69 rfl rfl ?_
            refine v_aload_n (n := 71) k dX1_write_70 rfl rfl ?_
            refine v_upV (n := 74) k [0, 1, 3, 4] 0 (z_X1_place (p := p) hP hp9 hg) miX1_place ml_X1_42 (by decide) (by decide) rfl (by decide) rfl rfl rfl rfl (Nat.le_of_ble_eq_true rfl) ⟨Nat.zero_le _, Nat.zero_le _⟩ dX1_write_71 rfl ?_
            rintro _ _ ⟨rfl, rfl⟩
            dsimp only [wput, List.set, Option.toList, List.nil_append, List.cons_append]
            refine v_iconst (n := 75) k dX1_write_74 rfl ?_
            refine v_zretU k (by decide) hq ?_ rfl dX1_write_75
            refine ⟨fun h => absurd h (by omega), fun _ => ⟨rfl, ?_⟩⟩
            first | rw [alW, if_pos (by omega)] | rw [alW, if_neg (by omega)]
            first | rw [koW, if_pos (by omega)] | rw [koW, if_neg (by omega)]
            try rfl
          · refine v_aload_n (n := 64) k dX1_write_63 rfl rfl ?_
            refine v_iconst (n := 65) k dX1_write_64 rfl ?_
            refine v_put (n := 68) k ciX1 0 2 (by decide) fl_X1_33 rfl rfl (rfl) (rfl) (Nat.le_of_ble_eq_true rfl) dX1_write_65 rfl ?_
            refine v_aload_n (n := 69) k dX1_write_68 rfl rfl ?_
            refine v_iload_n (n := 70) k dX1_write_69 rfl rfl ?_
            refine v_aload_n (n := 71) k dX1_write_70 rfl rfl ?_
            refine v_upV (n := 74) k [0, 1, 3, 4] 0 (z_X1_place (p := p) hP hp9 hg) miX1_place ml_X1_42 (by decide) (by decide) rfl (by decide) rfl rfl rfl rfl (Nat.le_of_ble_eq_true rfl) ⟨Nat.zero_le _, Nat.zero_le _⟩ dX1_write_71 rfl ?_
            rintro _ _ ⟨rfl, rfl⟩
            dsimp only [wput, List.set, Option.toList, List.nil_append, List.cons_append]
            refine v_iconst (n := 75) k dX1_write_74 rfl ?_
            refine v_zretU k (by decide) hq ?_ rfl dX1_write_75
            refine ⟨fun h => absurd h (by omega), fun _ => ⟨rfl, ?_⟩⟩
            first | rw [alW, if_pos (by omega)] | rw [alW, if_neg (by omega)]
            first | rw [koW, if_pos (by omega)] | rw [koW, if_neg (by omega)]
            try rfl
    · refine v_aload_n (n := 22) k dX1_write_21 rfl rfl ?_
      refine v_dup (n := 23) k rfl dX1_write_22 rfl ?_
      refine v_get (n := 26) k ciX1 0 6 (by decide) fl_X1_64 rfl rfl dX1_write_23 rfl ?_
      refine v_iconst (n := 27) k dX1_write_26 rfl ?_
      refine v_isub (n := 28) k dX1_write_27 rfl ?_
      refine v_put (n := 31) k ciX1 0 6 (by decide) fl_X1_64 rfl rfl (rfl) (rfl) (Nat.le_of_ble_eq_true rfl) dX1_write_28 rfl ?_
      refine v_aload_n (n := 32) k dX1_write_31 rfl rfl ?_
      refine v_dup (n := 33) k rfl dX1_write_32 rfl ?_
      refine v_get (n := 36) k ciX1 0 5 (by decide) fl_X1_26 rfl rfl dX1_write_33 rfl ?_
      refine v_iconst (n := 37) k dX1_write_36 rfl ?_
      refine v_iadd (n := 38) k dX1_write_37 rfl ?_
      refine v_put (n := 41) k ciX1 0 5 (by decide) fl_X1_26 rfl rfl (rfl) (rfl) (Nat.le_of_ble_eq_true rfl) dX1_write_38 rfl ?_
      refine v_iload_n (n := 42) k dX1_write_41 rfl rfl ?_
      refine v_if_eq (n := 45) (t := 63) k (⟨by omega, by omega⟩) dX1_write_42 (by decide) rfl (fun c_42 => ?_) (fun c_42 => ?_)
      · refine v_aload_n (n := 64) k dX1_write_63 rfl rfl ?_
        refine v_iconst (n := 65) k dX1_write_64 rfl ?_
        refine v_put (n := 68) k ciX1 0 2 (by decide) fl_X1_33 rfl rfl (rfl) (rfl) (Nat.le_of_ble_eq_true rfl) dX1_write_65 rfl ?_
        refine v_aload_n (n := 69) k dX1_write_68 rfl rfl ?_
        refine v_iload_n (n := 70) k dX1_write_69 rfl rfl ?_
        refine v_aload_n (n := 71) k dX1_write_70 rfl rfl ?_
        refine v_upV (n := 74) k [0, 1, 3, 4] 0 (z_X1_place (p := p) hP hp9 hg) miX1_place ml_X1_42 (by decide) (by decide) rfl (by decide) rfl rfl rfl rfl (Nat.le_of_ble_eq_true rfl) ⟨Nat.zero_le _, Nat.zero_le _⟩ dX1_write_71 rfl ?_
        rintro _ _ ⟨rfl, rfl⟩
        dsimp only [wput, List.set, Option.toList, List.nil_append, List.cons_append]
        refine v_iconst (n := 75) k dX1_write_74 rfl ?_
        refine v_zretU k (by decide) hq ?_ rfl dX1_write_75
        refine ⟨fun h => absurd h (by omega), fun _ => ⟨rfl, ?_⟩⟩
        first | rw [alW, if_pos (by omega)] | rw [alW, if_neg (by omega)]
        first | rw [koW, if_pos (by omega)] | rw [koW, if_neg (by omega)]
        try rfl
      · refine v_aload_n (n := 46) k dX1_write_45 rfl rfl ?_
        refine v_iload_n (n := 47) k dX1_write_46 rfl rfl ?_
        refine v_rdVi (n := 50) k [0] 0 (z_X1_isPage hpI hg) miX1_isPage ml_X1_50 (by decide) (by decide) rfl (by decide) rfl rfl rfl rfl (Nat.le_of_ble_eq_true rfl) ⟨Nat.zero_le _, Nat.zero_le _⟩ dX1_write_47 rfl ?_
        refine v_if_eq (n := 53) (t := 68) k (⟨by rw [bI_t hpg]; omega, by rw [bI_t hpg]; omega⟩) dX1_write_50 (by decide) rfl (fun c_50 => ?_) (fun c_50 => ?_)
        · exfalso; rw [bI_t hpg] at c_50; omega
        · have hk9 := hK p
          refine v_aload_n (n := 54) k dX1_write_53 rfl rfl ?_
          refine v_get (n := 57) k ciX1 0 1 (by decide) fl_X1_16 rfl rfl dX1_write_54 rfl ?_
          refine v_iload_n (n := 58) k dX1_write_57 rfl rfl ?_
          refine v_ialdN (n := 59) k 2 0 (p) rfl rfl (by omega) (by omega) (by omega) dX1_write_58 rfl ?_
          refine v_iconst (n := 60) k dX1_write_59 rfl ?_
          refine v_icmp_ne (n := 63) (t := 68) k (⟨by omega, by omega⟩) (⟨by omega, by omega⟩) dX1_write_60 (by decide) rfl (fun c_60 => ?_) (fun c_60 => ?_)
          · refine v_aload_n (n := 69) k dX1_write_68 rfl rfl ?_
            refine v_iload_n (n := 70) k dX1_write_69 rfl rfl ?_
            refine v_aload_n (n := 71) k dX1_write_70 rfl rfl ?_
            refine v_upV (n := 74) k [0, 1, 3, 4] 0 (z_X1_place (p := p) hP hp9 hg) miX1_place ml_X1_42 (by decide) (by decide) rfl (by decide) rfl rfl rfl rfl (Nat.le_of_ble_eq_true rfl) ⟨Nat.zero_le _, Nat.zero_le _⟩ dX1_write_71 rfl ?_
            rintro _ _ ⟨rfl, rfl⟩
            dsimp only [wput, List.set, Option.toList, List.nil_append, List.cons_append]
            refine v_iconst (n := 75) k dX1_write_74 rfl ?_
            refine v_zretU k (by decide) hq ?_ rfl dX1_write_75
            refine ⟨fun h => absurd h (by omega), fun _ => ⟨rfl, ?_⟩⟩
            first | rw [alW, if_pos (by omega)] | rw [alW, if_neg (by omega)]
            first | rw [koW, if_pos (by omega)] | rw [koW, if_neg (by omega)]
            try rfl
          · refine v_aload_n (n := 64) k dX1_write_63 rfl rfl ?_
            refine v_iconst (n := 65) k dX1_write_64 rfl ?_
            refine v_put (n := 68) k ciX1 0 2 (by decide) fl_X1_33 rfl rfl (rfl) (rfl) (Nat.le_of_ble_eq_true rfl) dX1_write_65 rfl ?_
            refine v_aload_n (n := 69) k dX1_write_68 rfl rfl ?_
            refine v_iload_n (n := 70) k dX1_write_69 rfl rfl ?_
            refine v_aload_n (n := 71) k dX1_write_70 rfl rfl ?_
            refine v_upV (n := 74) k [0, 1, 3, 4] 0 (z_X1_place (p := p) hP hp9 hg) miX1_place ml_X1_42 (by decide) (by decide) rfl (by decide) rfl rfl rfl rfl (Nat.le_of_ble_eq_true rfl) ⟨Nat.zero_le _, Nat.zero_le _⟩ dX1_write_71 rfl ?_
            rintro _ _ ⟨rfl, rfl⟩
            dsimp only [wput, List.set, Option.toList, List.nil_append, List.cons_append]
            refine v_iconst (n := 75) k dX1_write_74 rfl ?_
            refine v_zretU k (by decide) hq ?_ rfl dX1_write_75
            refine ⟨fun h => absurd h (by omega), fun _ => ⟨rfl, ?_⟩⟩
            first | rw [alW, if_pos (by omega)] | rw [alW, if_neg (by omega)]
            first | rw [koW, if_pos (by omega)] | rw [koW, if_neg (by omega)]
            try rfl
  · refine v_aload_n (n := 8) k dX1_write_7 rfl rfl ?_
    refine v_iconst (n := 9) k dX1_write_8 rfl ?_
    refine v_put (n := 12) k ciX1 0 7 (by decide) fl_X1_67 rfl rfl (rfl) (rfl) (Nat.le_of_ble_eq_true rfl) dX1_write_9 rfl ?_
    refine v_iconst (n := 13) k dX1_write_12 rfl ?_
    refine v_zretU k (by decide) hq ?_ rfl dX1_write_13
    exact ⟨fun _ => ⟨rfl, rfl⟩, fun h => absurd c_4 h⟩
set_option maxHeartbeats 1000000 in
set_option maxRecDepth 20000 in
theorem z_X1_lay {D : va_G} {cI cB cJ cZ : ClassId} {hd hc hk : Nat} {ko : Int} {pg lg : Nat} {wt al dn : Int} {C : Nat → Nat} {P I V : Int} {p i v : Nat} (hP : P = (p : Int)) (hI : I = (i : Int)) (hV : V = (v : Int)) (hp9 : p < pg) (hi : i < 256) (hg : pg ≤ 255) : ∀ l, Up l yX1_lay cX1_lay 4 none ({ frames := 1, cells := 0, slots := 0, locals := 21 }) D (TY cI cB cJ cZ) [.ref hd, .int (iI P), .int (iI I), .int (iI V)] [oDisk hd hc hk ko pg lg wt al dn, aN cI hc 65280 C] (fun r w1 => r = none ∧ w1 = [oDisk hd hc hk ko pg lg wt al dn, aN cI hc 65280 (upN C (p * 256 + i) v)]) := by
  intro l
  refine Up_of (by decide) (Nat.le_of_ble_eq_true rfl) (fun x k hq => ?_)
  have hpI : in32 P := ⟨by omega, by omega⟩
  have hpg : pgF pg P = true := decide_eq_true (by omega)
  refine v_aload_n (n := 1) k dX1_lay_0 rfl rfl ?_
  refine v_iload_n (n := 2) k dX1_lay_1 rfl rfl ?_
  refine v_rdVi (n := 5) k [0] 0 (z_X1_isPage hpI hg) miX1_isPage ml_X1_50 (by decide) (by decide) rfl (by decide) rfl rfl rfl rfl (Nat.le_of_ble_eq_true rfl) ⟨Nat.zero_le _, Nat.zero_le _⟩ dX1_lay_2 rfl ?_
  refine v_if_eq (n := 8) (t := 32) k (⟨by rw [bI_t hpg]; omega, by rw [bI_t hpg]; omega⟩) dX1_lay_5 (by decide) rfl (fun c_5 => ?_) (fun c_5 => ?_)
  · exfalso; rw [bI_t hpg] at c_5; omega
  · refine v_iload_n (n := 9) k dX1_lay_8 rfl rfl ?_
    refine v_if_lt (n := 12) (t := 32) k (⟨by omega, by omega⟩) dX1_lay_9 (by decide) rfl (fun c_9 => ?_) (fun c_9 => ?_)
    · exfalso; omega
    · refine v_iload_n (n := 13) k dX1_lay_12 rfl rfl ?_
      refine v_sipush (n := 16) k dX1_lay_13 (by decide) rfl ?_
      refine v_icmp_ge (n := 19) (t := 32) k (⟨by omega, by omega⟩) (⟨by omega, by omega⟩) dX1_lay_16 (by decide) rfl (fun c_16 => ?_) (fun c_16 => ?_)
      · exfalso; omega
      · refine v_aload_n (n := 20) k dX1_lay_19 rfl rfl ?_
        refine v_get (n := 23) k ciX1 0 0 (by decide) fl_X1_10 rfl rfl dX1_lay_20 rfl ?_
        refine v_iload_n (n := 24) k dX1_lay_23 rfl rfl ?_
        refine v_sipush (n := 27) k dX1_lay_24 (by decide) rfl ?_
        refine v_imul (n := 28) k dX1_lay_27 rfl ?_
        refine v_iload_n (n := 29) k dX1_lay_28 rfl rfl ?_
        refine v_iadd (n := 30) k dX1_lay_29 rfl ?_
        refine v_iload_n (n := 31) k dX1_lay_30 rfl rfl ?_
        refine v_iastN (n := 32) k 1 0 (p * 256 + i) rfl rfl (by omega) (by omega) (by omega) (v) (by omega) dX1_lay_31 rfl ?_
        refine v_vretU k hq ?_ rfl dX1_lay_32
        exact ⟨rfl, rfl⟩
set_option maxHeartbeats 1000000 in
set_option maxRecDepth 20000 in
theorem z_X1_mark {D : va_G} {cI cB cJ cZ : ClassId} {hd hc hk : Nat} {ko : Int} {pg lg : Nat} {wt al dn : Int} {K : Nat → Nat} {P V : Int} {p v : Nat} (hP : P = (p : Int)) (hV : V = (v : Int)) (hp9 : p < 256) (hg : pg ≤ 255) : ∀ l, Up l yX1_mark cX1_mark 3 none ({ frames := 1, cells := 0, slots := 0, locals := 21 }) D (TY cI cB cJ cZ) [.ref hd, .int (iI P), .int (iI V)] [oDisk hd hc hk ko pg lg wt al dn, aN cI hk 255 K] (fun r w1 => r = none ∧ w1 = [oDisk hd hc hk ko pg lg wt al dn, aN cI hk 255 (mkN K pg p v)]) := by
  intro l
  refine Up_of (by decide) (Nat.le_of_ble_eq_true rfl) (fun x k hq => ?_)
  have hpI : in32 P := ⟨by omega, by omega⟩
  refine v_aload_n (n := 1) k dX1_mark_0 rfl rfl ?_
  refine v_iload_n (n := 2) k dX1_mark_1 rfl rfl ?_
  refine v_rdVi (n := 5) k [0] 0 (z_X1_isPage hpI hg) miX1_isPage ml_X1_50 (by decide) (by decide) rfl (by decide) rfl rfl rfl rfl (Nat.le_of_ble_eq_true rfl) ⟨Nat.zero_le _, Nat.zero_le _⟩ dX1_mark_2 rfl ?_
  refine v_if_eq (n := 8) (t := 15) k (⟨by cases pgF pg P <;> decide, by cases pgF pg P <;> decide⟩) dX1_mark_5 (by decide) rfl (fun c_5 => ?_) (fun c_5 => ?_)
  · refine v_vretU k hq ?_ rfl dX1_mark_15
    refine ⟨rfl, ?_⟩
    first
    | (rw [mkN, if_pos hlt]; rfl)
    | (have hnl : ¬ p < pg := fun h => by
        have h9 : pgF pg P = true := decide_eq_true (by omega)
        rw [bI_t h9] at c_5
        omega
       rw [mkN, if_neg hnl])
  · have hlt : p < pg := by
      have h9 : pgF pg P = true := by
        cases h8 : pgF pg P with
        | true => rfl
        | false => exact absurd (bI_f h8) c_5
      have := of_decide_eq_true h9
      omega
    refine v_aload_n (n := 9) k dX1_mark_8 rfl rfl ?_
    refine v_get (n := 12) k ciX1 0 1 (by decide) fl_X1_16 rfl rfl dX1_mark_9 rfl ?_
    refine v_iload_n (n := 13) k dX1_mark_12 rfl rfl ?_
    refine v_iload_n (n := 14) k dX1_mark_13 rfl rfl ?_
    refine v_iastN (n := 15) k 1 0 (p) rfl rfl (by omega) (by omega) (by omega) (v) (by omega) dX1_mark_14 rfl ?_
    refine v_vretU k hq ?_ rfl dX1_mark_15
    refine ⟨rfl, ?_⟩
    first
    | (rw [mkN, if_pos hlt]; rfl)
    | (have hnl : ¬ p < pg := fun h => by
        have h9 : pgF pg P = true := decide_eq_true (by omega)
        rw [bI_t h9] at c_5
        omega
       rw [mkN, if_neg hnl])
def wpC (C : Nat → Nat) (n : Nat) : Nat → Nat := fun j => if j < n * 256 then 0 else C j
set_option maxRecDepth 20000 in
theorem wpC_step (C : Nat → Nat) (n : Nat) : wrp (wpC C n) n (fun _ => 0) = wpC C (n + 1) := by
  funext j
  unfold wrp cpN wpC
  by_cases h1 : n * 256 ≤ j ∧ j < n * 256 + 256
  · rw [if_pos h1, if_pos (by omega)]
  · rw [if_neg h1]
    by_cases h2 : j < n * 256
    · have h3 : j < (n + 1) * 256 := by omega
      simp only [if_pos h2, if_pos h3]
    · have h3 : ¬ j < (n + 1) * 256 := by omega
      simp only [if_neg h2, if_neg h3]
theorem wpC_0 (C : Nat → Nat) : wpC C 0 = C := by
  funext j
  simp [wpC]
/-- the cells behind format(n, g) -/
def fmC (C : Nat → Nat) (n g : Nat) : Nat → Nat := upN (upN (wpC C n) (0 * 256 + 1) (g + 2)) ((g + 2) * 256 + 0) (g + 3)
set_option maxHeartbeats 1000000 in
set_option maxRecDepth 20000 in
theorem lp_X1_wipe {D : va_G} {cI cB cJ cZ : ClassId} {x : Kx} {hd hc hk : Nat} {C : Nat → Nat} {hp hb n g : Nat} (k : Kf x cX1_wipe 5 yX1_wipe.cls none D (TY cI cB cJ cZ) ({ frames := 2, cells := 0, slots := 0, locals := 62 })) (hq : isU x D [hd, hc, hp, hb] (fun r w1 => r = none ∧ w1 = [oDisk hd hc hk 1 n g 0 (-1) 0, aN cI hc 65280 (fmC C n g), oPage hp hb, aN cI hb 256 (fun _ => 0)])) (hn : 8 ≤ n ∧ n ≤ 255) (hg : 2 ≤ g ∧ g ≤ 100) (hng : g + 4 ≤ n) : ∀ (m : Nat) (i : Nat) (I : Int), n < i + m → i ≤ n → I = (i : Int) → Vw x 5 (fun q => q ∈ [hd, hc, hp, hb]) D true 0 0 [oDisk hd hc hk 1 n g 0 (-1) 0, aN cI hc 65280 (wpC C i), oPage hp hb, aN cI hb 256 (fun _ => 0)] 32 [(0, .ref hd), (1, .int (iI (n : Int))), (2, .int (iI (g : Int))), (3, .ref hp), (4, .int (iI I))] [] := by
  intro m
  induction m with
  | zero => intro i I hm hi e1; omega
  | succ m ih =>
    intro i I hm hi e1
    refine v_iload (n := 34) k dX1_wipe_32 rfl rfl ?_
    refine v_aload_n (n := 35) k dX1_wipe_34 rfl rfl ?_
    refine v_get (n := 38) k ciX1 0 3 (by decide) fl_X1_19 rfl rfl dX1_wipe_35 rfl ?_
    refine v_icmp_ge (n := 41) (t := 54) k (⟨by omega, by omega⟩) (⟨by omega, by omega⟩) dX1_wipe_38 (by decide) rfl (fun c_38 => ?_) (fun c_38 => ?_)
    · have hin : i = n := by omega
      subst hin
      refine v_aload_n (n := 55) k dX1_wipe_54 rfl rfl ?_
      refine v_iconst (n := 56) k dX1_wipe_55 rfl ?_
      refine v_iconst (n := 57) k dX1_wipe_56 rfl ?_
      refine v_aload_n (n := 58) k dX1_wipe_57 rfl rfl ?_
      refine v_get (n := 61) k ciX1 0 4 (by decide) fl_X1_23 rfl rfl dX1_wipe_58 rfl ?_
      refine v_iconst (n := 62) k dX1_wipe_61 rfl ?_
      refine v_iadd (n := 63) k dX1_wipe_62 rfl ?_
      refine v_upV (n := 66) k [0, 1] 0 (z_X1_lay (p := 0) (i := 1) (v := g + 2) rfl rfl (by omega) (by omega) (by omega) (by omega)) miX1_lay ml_X1_46 (by decide) (by decide) rfl (by decide) rfl rfl rfl rfl (Nat.le_of_ble_eq_true rfl) ⟨Nat.zero_le _, Nat.zero_le _⟩ dX1_wipe_63 rfl ?_
      rintro _ _ ⟨rfl, rfl⟩
      dsimp only [wput, List.set, Option.toList, List.nil_append, List.cons_append]
      refine v_aload_n (n := 67) k dX1_wipe_66 rfl rfl ?_
      refine v_aload_n (n := 68) k dX1_wipe_67 rfl rfl ?_
      refine v_get (n := 71) k ciX1 0 4 (by decide) fl_X1_23 rfl rfl dX1_wipe_68 rfl ?_
      refine v_iconst (n := 72) k dX1_wipe_71 rfl ?_
      refine v_iadd (n := 73) k dX1_wipe_72 rfl ?_
      refine v_iconst (n := 74) k dX1_wipe_73 rfl ?_
      refine v_aload_n (n := 75) k dX1_wipe_74 rfl rfl ?_
      refine v_get (n := 78) k ciX1 0 4 (by decide) fl_X1_23 rfl rfl dX1_wipe_75 rfl ?_
      refine v_iconst (n := 79) k dX1_wipe_78 rfl ?_
      refine v_iadd (n := 80) k dX1_wipe_79 rfl ?_
      refine v_upV (n := 83) k [0, 1] 0 (z_X1_lay (p := g + 2) (i := 0) (v := g + 3) (by omega) rfl (by omega) (by omega) (by omega) (by omega)) miX1_lay ml_X1_46 (by decide) (by decide) rfl (by decide) rfl rfl rfl rfl (Nat.le_of_ble_eq_true rfl) ⟨Nat.zero_le _, Nat.zero_le _⟩ dX1_wipe_80 rfl ?_
      rintro _ _ ⟨rfl, rfl⟩
      dsimp only [wput, List.set, Option.toList, List.nil_append, List.cons_append]
      refine v_vretU k hq ?_ rfl dX1_wipe_83
      exact ⟨rfl, rfl⟩
    · refine v_aload_n (n := 42) k dX1_wipe_41 rfl rfl ?_
      refine v_iload (n := 44) k dX1_wipe_42 rfl rfl ?_
      refine v_aload_n (n := 45) k dX1_wipe_44 rfl rfl ?_
      refine v_upV (n := 48) k [0, 1, 2, 3] 0 (z_X1_place (p := i) e1 (by omega) (by omega)) miX1_place ml_X1_42 (by decide) (by decide) rfl (by decide) rfl rfl rfl rfl (Nat.le_of_ble_eq_true rfl) ⟨Nat.zero_le _, Nat.zero_le _⟩ dX1_wipe_45 rfl ?_
      rw [wpC_step]
      rintro _ _ ⟨rfl, rfl⟩
      dsimp only [wput, List.set, Option.toList, List.nil_append, List.cons_append]
      refine v_iinc (n := 51) k dX1_wipe_48 rfl (by decide) rfl rfl rfl ?_
      refine v_goto (t := 32) k dX1_wipe_51 (by decide) ?_
      exact ih (i + 1) _ (by omega) (by omega) (by omega)
set_option maxHeartbeats 1000000 in
set_option maxRecDepth 20000 in
theorem z_X1_wipe {D : va_G} {cI cB cJ cZ : ClassId} {hd hc hk : Nat} {ko : Int} {pg lg : Nat} {wt al dn : Int} {C : Nat → Nat} {hp hb : Nat} {f : Nat → Nat} {n g : Nat} (hn : 8 ≤ n ∧ n ≤ 255) (hg : 2 ≤ g ∧ g ≤ 100) (hng : g + 4 ≤ n) : ∀ l, Up l yX1_wipe cX1_wipe 5 none ({ frames := 2, cells := 0, slots := 0, locals := 62 }) D (TY cI cB cJ cZ) [.ref hd, .int (iI (n : Int)), .int (iI (g : Int)), .ref hp] [oDisk hd hc hk ko pg lg wt al dn, aN cI hc 65280 C, oPage hp hb, aN cI hb 256 f] (fun r w1 => r = none ∧ w1 = [oDisk hd hc hk 1 n g 0 (-1) 0, aN cI hc 65280 (fmC C n g), oPage hp hb, aN cI hb 256 (fun _ => 0)]) := by
  intro l
  refine Up_of (by decide) (Nat.le_of_ble_eq_true rfl) (fun x k hq => ?_)
  refine v_aload_n (n := 1) k dX1_wipe_0 rfl rfl ?_
  refine v_iload_n (n := 2) k dX1_wipe_1 rfl rfl ?_
  refine v_put (n := 5) k ciX1 0 3 (by decide) fl_X1_19 rfl rfl (rfl) (rfl) (Nat.le_of_ble_eq_true rfl) dX1_wipe_2 rfl ?_
  refine v_aload_n (n := 6) k dX1_wipe_5 rfl rfl ?_
  refine v_iload_n (n := 7) k dX1_wipe_6 rfl rfl ?_
  refine v_put (n := 10) k ciX1 0 4 (by decide) fl_X1_23 rfl rfl (rfl) (rfl) (Nat.le_of_ble_eq_true rfl) dX1_wipe_7 rfl ?_
  refine v_aload_n (n := 11) k dX1_wipe_10 rfl rfl ?_
  refine v_iconst (n := 12) k dX1_wipe_11 rfl ?_
  refine v_put (n := 15) k ciX1 0 5 (by decide) fl_X1_26 rfl rfl (rfl) (rfl) (Nat.le_of_ble_eq_true rfl) dX1_wipe_12 rfl ?_
  refine v_aload_n (n := 16) k dX1_wipe_15 rfl rfl ?_
  refine v_iconst (n := 17) k dX1_wipe_16 rfl ?_
  refine v_upV (n := 20) k [0] 0 (z_X1_allow) miX1_allow ml_X1_29 (by decide) (by decide) rfl (by decide) rfl rfl rfl rfl (Nat.le_of_ble_eq_true rfl) ⟨Nat.zero_le _, Nat.zero_le _⟩ dX1_wipe_17 rfl ?_
  rintro _ _ ⟨rfl, rfl⟩
  dsimp only [wput, List.set, Option.toList, List.nil_append, List.cons_append]
  refine v_aload_n (n := 21) k dX1_wipe_20 rfl rfl ?_
  refine v_iconst (n := 22) k dX1_wipe_21 rfl ?_
  refine v_put (n := 25) k ciX1 0 2 (by decide) fl_X1_33 rfl rfl (rfl) (rfl) (Nat.le_of_ble_eq_true rfl) dX1_wipe_22 rfl ?_
  refine v_aload_n (n := 26) k dX1_wipe_25 rfl rfl ?_
  refine v_upV (n := 29) k [2, 3] 2 (z_X2_clear) miX2_clear ml_X1_37 (by decide) (by decide) rfl (by decide) rfl rfl rfl rfl (Nat.le_of_ble_eq_true rfl) ⟨Nat.zero_le _, Nat.zero_le _⟩ dX1_wipe_26 rfl ?_
  rintro _ _ ⟨rfl, rfl⟩
  dsimp only [wput, List.set, Option.toList, List.nil_append, List.cons_append]
  refine v_iconst (n := 30) k dX1_wipe_29 rfl ?_
  refine v_istore (n := 32) k dX1_wipe_30 rfl (by decide) rfl rfl ?_
  have h0 := lp_X1_wipe (C := C) k hq hn hg hng (n + 1) 0 0 (by omega) (by omega) rfl
  rw [wpC_0] at h0
  exact h0
