def atF (C : Nat → Int) (pg page i : Int) : Int := if 0 ≤ page ∧ page < pg ∧ 0 ≤ i ∧ i < 256 then C (page * 256 + i).toNat else -1
set_option maxHeartbeats 1000000 in
set_option maxRecDepth 20000 in
theorem z_X1_at {D : va_G} {cI cB cJ cZ : ClassId} {hd hc hk : Nat} {ko pg lg wt al dn : Int} {C : Nat → Int} {page i : Int} (hp : in32 page) (hi : in32 i) (hg : 0 ≤ pg ∧ pg ≤ 255) : ∀ l, Rd l yX1_at cX1_at 3 (some .int) ({ frames := 0, cells := 0, slots := 0, locals := 0 }) D (TY cI cB cJ cZ) [.ref hd, .int (iI page), .int (iI i)] [oDisk hd hc hk ko pg lg wt al dn, aI cI hc 65280 C] (fun v => v = some (.int (iI (atF C pg page i)))) := by
  intro l
  refine Rd_of (by decide) (Nat.le_of_ble_eq_true rfl) (fun x k hq => ?_)
  obtain ⟨hp1, hp2⟩ := hp
  obtain ⟨hi1, hi2⟩ := hi
  refine v_iload_n (n := 1) k dX1_at_0 rfl rfl ?_
  refine v_if_lt (n := 4) (t := 30) k (⟨by omega, by omega⟩) dX1_at_1 (by decide) rfl (fun c_1 => ?_) (fun c_1 => ?_)
  · refine v_iconst (n := 31) k dX1_at_30 rfl ?_
    refine v_iretR k hq ?_ dX1_at_31
    rw [atF, if_neg (by omega)]
  · refine v_iload_n (n := 5) k dX1_at_4 rfl rfl ?_
    refine v_aload_n (n := 6) k dX1_at_5 rfl rfl ?_
    refine v_get (n := 9) k ciX1 0 3 (by decide) fl_X1_19 rfl rfl dX1_at_6 rfl ?_
    refine v_icmp_ge (n := 12) (t := 30) k (⟨by omega, by omega⟩) (⟨by omega, by omega⟩) dX1_at_9 (by decide) rfl (fun c_9 => ?_) (fun c_9 => ?_)
    · refine v_iconst (n := 31) k dX1_at_30 rfl ?_
      refine v_iretR k hq ?_ dX1_at_31
      rw [atF, if_neg (by omega)]
    · refine v_iload_n (n := 13) k dX1_at_12 rfl rfl ?_
      refine v_sipush (n := 16) k dX1_at_13 (by decide) rfl ?_
      refine v_icmp_ge (n := 19) (t := 30) k (⟨by omega, by omega⟩) (⟨by omega, by omega⟩) dX1_at_16 (by decide) rfl (fun c_16 => ?_) (fun c_16 => ?_)
      · refine v_iconst (n := 31) k dX1_at_30 rfl ?_
        refine v_iretR k hq ?_ dX1_at_31
        rw [atF, if_neg (by omega)]
      · refine v_iload_n (n := 20) k dX1_at_19 rfl rfl ?_
        refine v_if_lt (n := 23) (t := 30) k (⟨by omega, by omega⟩) dX1_at_20 (by decide) rfl (fun c_20 => ?_) (fun c_20 => ?_)
        · refine v_iconst (n := 31) k dX1_at_30 rfl ?_
          refine v_iretR k hq ?_ dX1_at_31
          rw [atF, if_neg (by omega)]
        · refine v_iload_n (n := 24) k dX1_at_23 rfl rfl ?_
          refine v_sipush (n := 27) k dX1_at_24 (by decide) rfl ?_
          refine v_icmp_lt (n := 30) (t := 32) k (⟨by omega, by omega⟩) (⟨by omega, by omega⟩) dX1_at_27 (by decide) rfl (fun c_27 => ?_) (fun c_27 => ?_)
          · refine v_aload_n (n := 33) k dX1_at_32 rfl rfl ?_
            refine v_get (n := 36) k ciX1 0 0 (by decide) fl_X1_10 rfl rfl dX1_at_33 rfl ?_
            refine v_iload_n (n := 37) k dX1_at_36 rfl rfl ?_
            refine v_sipush (n := 40) k dX1_at_37 (by decide) rfl ?_
            refine v_imul (n := 41) k dX1_at_40 rfl ?_
            refine v_iload_n (n := 42) k dX1_at_41 rfl rfl ?_
            refine v_iadd (n := 43) k dX1_at_42 rfl ?_
            refine v_iald (n := 44) k 1 0 rfl rfl (⟨by omega, by omega⟩) (by decide) dX1_at_43 rfl ?_
            refine v_iretR k hq ?_ dX1_at_44
            rw [atF, if_pos ⟨by omega, by omega, by omega, by omega⟩]
          · refine v_iconst (n := 31) k dX1_at_30 rfl ?_
            refine v_iretR k hq ?_ dX1_at_31
            rw [atF, if_neg (by omega)]

def pgF (pg page : Int) : Int := if 0 ≤ page ∧ page < pg then 1 else 0
set_option maxHeartbeats 1000000 in
set_option maxRecDepth 20000 in
theorem z_X1_isPage {D : va_G} {cI cB cJ cZ : ClassId} {hd hc hk : Nat} {ko pg lg wt al dn : Int} {C : Nat → Int} {page : Int} (hp : in32 page) (hg : 0 ≤ pg ∧ pg ≤ 255) : ∀ l, Rd l yX1_isPage cX1_isPage 2 (some .boolean) ({ frames := 0, cells := 0, slots := 0, locals := 0 }) D (TY cI cB cJ cZ) [.ref hd, .int (iI page)] [oDisk hd hc hk ko pg lg wt al dn] (fun v => v = some (.int (iI (pgF pg page)))) := by
  intro l
  refine Rd_of (by decide) (Nat.le_of_ble_eq_true rfl) (fun x k hq => ?_)
  obtain ⟨hp1, hp2⟩ := hp
  refine v_iload_n (n := 1) k dX1_isPage_0 rfl rfl ?_
  refine v_if_lt (n := 4) (t := 23) k (⟨by omega, by omega⟩) dX1_isPage_1 (by decide) rfl (fun c_1 => ?_) (fun c_1 => ?_)
  · refine v_iconst (n := 24) k dX1_isPage_23 rfl ?_
    refine v_zretR k (by decide) hq ?_ dX1_isPage_24
    first | rw [pgF, if_neg (by omega)] | rw [pgF, if_pos ⟨by omega, by omega⟩]
  · refine v_iload_n (n := 5) k dX1_isPage_4 rfl rfl ?_
    refine v_aload_n (n := 6) k dX1_isPage_5 rfl rfl ?_
    refine v_get (n := 9) k ciX1 0 3 (by decide) fl_X1_19 rfl rfl dX1_isPage_6 rfl ?_
    refine v_icmp_ge (n := 12) (t := 23) k (⟨by omega, by omega⟩) (⟨by omega, by omega⟩) dX1_isPage_9 (by decide) rfl (fun c_9 => ?_) (fun c_9 => ?_)
    · refine v_iconst (n := 24) k dX1_isPage_23 rfl ?_
      refine v_zretR k (by decide) hq ?_ dX1_isPage_24
      first | rw [pgF, if_neg (by omega)] | rw [pgF, if_pos ⟨by omega, by omega⟩]
    · refine v_iload_n (n := 13) k dX1_isPage_12 rfl rfl ?_
      refine v_sipush (n := 16) k dX1_isPage_13 (by decide) rfl ?_
      refine v_icmp_ge (n := 19) (t := 23) k (⟨by omega, by omega⟩) (⟨by omega, by omega⟩) dX1_isPage_16 (by decide) rfl (fun c_16 => ?_) (fun c_16 => ?_)
      · refine v_iconst (n := 24) k dX1_isPage_23 rfl ?_
        refine v_zretR k (by decide) hq ?_ dX1_isPage_24
        first | rw [pgF, if_neg (by omega)] | rw [pgF, if_pos ⟨by omega, by omega⟩]
      · refine v_iconst (n := 20) k dX1_isPage_19 rfl ?_
        refine v_goto (t := 24) k dX1_isPage_20 (by decide) ?_
        refine v_zretR k (by decide) hq ?_ dX1_isPage_24
        first | rw [pgF, if_neg (by omega)] | rw [pgF, if_pos ⟨by omega, by omega⟩]

set_option maxHeartbeats 1000000 in
set_option maxRecDepth 20000 in
theorem z_X1_depth {D : va_G} {cI cB cJ cZ : ClassId} {hd hc hk : Nat} {ko pg lg wt al dn : Int} {C : Nat → Int} (hg : 0 ≤ pg ∧ pg ≤ 255) : ∀ l, Rd l yX1_depth cX1_depth 1 (some .int) ({ frames := 1, cells := 0, slots := 0, locals := 22 }) D (TY cI cB cJ cZ) [.ref hd] [oDisk hd hc hk ko pg lg wt al dn, aI cI hc 65280 C] (fun v => v = some (.int (iI (atF C pg 0 0)))) := by
  intro l
  refine Rd_of (by decide) (Nat.le_of_ble_eq_true rfl) (fun x k hq => ?_)
  refine v_aload_n (n := 1) k dX1_depth_0 rfl rfl ?_
  refine v_iconst (n := 2) k dX1_depth_1 rfl ?_
  refine v_iconst (n := 3) k dX1_depth_2 rfl ?_
  refine v_rdVi (n := 6) k [0, 1] 0 (z_X1_at ⟨by omega, by omega⟩ ⟨by omega, by omega⟩ hg) miX1_at ml_X1_70 (by decide) (by decide) rfl (by decide) rfl rfl rfl rfl (by decide) ⟨Nat.zero_le _, Nat.zero_le _⟩ dX1_depth_3 rfl ?_
  refine v_iretR k hq ?_ dX1_depth_6
  rfl

