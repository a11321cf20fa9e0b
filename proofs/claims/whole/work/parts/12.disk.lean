/-- the disk's bytes are bytes, its size and depth are in their bounds, the HEAD tells pages behind the images -/
def DW (C : Nat → Nat) (pg lg : Nat) : Prop := 8 ≤ pg ∧ pg ≤ 255 ∧ (∀ j, C j < 256) ∧ C 0 ≤ 15 ∧ (∀ k, k < pF (C 0) → C (1 + k) < pg) ∧ (∀ k, k < pF (C 0) → lg + 2 ≤ C (1 + k)) ∧ lg ≤ 100
def bL (C : Nat → Nat) (p : Nat) : Nat := pb C p 2 * 256 + pb C p 3
def rsz (C : Nat → Nat) (p s : Nat) : Nat := 2 + pb C p s + pb C p (s + 1)
/-- where record r of page p begins -/
def rst (C : Nat → Nat) (p : Nat) : Nat → Nat
  | 0 => 4
  | r + 1 => rst C p r + rsz C p (rst C p r)
/-- page p is a bucket's -/
def WB (C : Nat → Nat) (p : Nat) : Prop := (∀ r, r < pb C p 1 → 1 ≤ pb C p (rst C p r) ∧ pb C p (rst C p r) ≤ 16 ∧ pb C p (rst C p r + 1) ≤ 32) ∧ rst C p (pb C p 1) = 4 + bL C p ∧ bL C p ≤ 252
theorem rst_mono {C : Nat → Nat} {p a b : Nat} (h : a ≤ b) : rst C p a ≤ rst C p b := by
  induction h with
  | refl => exact Nat.le_refl _
  | step _ ih => exact Nat.le_trans ih (Nat.le_add_right _ _)
theorem rst_ge (C : Nat → Nat) (p r : Nat) : 4 ≤ rst C p r := rst_mono (a := 0) (Nat.zero_le r)
/-- a record lies in its page -/
theorem WB.fit {C : Nat → Nat} {p r : Nat} (h : WB C p) (hr : r < pb C p 1) : rst C p r + rsz C p (rst C p r) ≤ 4 + bL C p ∧ rst C p r + rsz C p (rst C p r) ≤ 256 := by
  obtain ⟨-, h2, h3⟩ := h
  have h1 : rst C p (r + 1) ≤ rst C p (pb C p 1) := rst_mono hr
  rw [h2] at h1
  have h4 : rst C p (r + 1) = rst C p r + rsz C p (rst C p r) := rfl
  omega
theorem rsz_ge (C : Nat → Nat) (p s : Nat) : 2 + pb C p s + pb C p (s + 1) = rsz C p s := rfl
theorem pF_idx {d i : Nat} (h : i < 2 ^ d) : i / 256 < pF d := by
  unfold pF
  split
  · rename_i h8
    have : 2 ^ d ≤ 2 ^ 8 := Nat.pow_le_pow_right (by decide) h8
    have : (2 : Nat) ^ 8 = 256 := by decide
    omega
  · rename_i h8
    have e : 2 ^ d = 256 * 2 ^ (d - 8) := by
      rw [show (256 : Nat) = 2 ^ 8 from rfl, ← Nat.pow_add]
      congr 1
      omega
    rw [e] at h
    exact Nat.div_lt_of_lt_mul h
def entN (C : Nat → Nat) (i : Nat) : Nat := pb C (pb C 0 (1 + i / 256)) (i % 256)
def entF (C : Nat → Nat) (I : Int) : Int := if 0 ≤ I ∧ I < ((2 ^ C 0 : Nat) : Int) then ((entN C I.toNat : Nat) : Int) else -1
def atF (C : Nat → Nat) (pg : Nat) (P I : Int) : Int := if 0 ≤ P ∧ P < (pg : Int) ∧ 0 ≤ I ∧ I < 256 then ((C (P * 256 + I).toNat : Nat) : Int) else -1
def idx (C : Nat → Nat) (h : Nat) : Nat := h / 2 ^ (16 - C 0)
theorem idx_lt {C : Nat → Nat} {h : Nat} (hh : h < 65536) (hd : C 0 ≤ 15) : idx C h < 2 ^ C 0 := by
  unfold idx
  apply Nat.div_lt_of_lt_mul
  rw [← Nat.pow_add, show 16 - C 0 + C 0 = 16 by omega]
  exact hh
theorem pF_lt {d : Nat} (h : d ≤ 15) : pF d ≤ 128 := by
  unfold pF
  split
  · decide
  · exact Nat.le_trans (Nat.pow_le_pow_right (n := 2) (j := 7) (by decide) (by omega)) (by decide)
theorem all_range {n : Nat} {P : Nat → Bool} (h : ∀ r, r < n → P r = true) : (List.range n).all P = true := List.all_eq_true.mpr fun r hr => h r (List.mem_range.mp hr)
theorem all_range_f {n i : Nat} {P : Nat → Bool} (hi : i < n) (h : P i = false) : (List.range n).all P = false := by
  rw [List.all_eq_false]
  exact ⟨i, List.mem_range.mpr hi, by rw [h]; decide⟩
theorem find_range {n i : Nat} {P : Nat → Bool} (hi : i < n) (h : P i = true) (h0 : ∀ r, r < i → P r = false) : (List.range n).find? P = some i := by
  rw [List.find?_range_eq_some]
  exact ⟨h, List.mem_range.mpr hi, fun j hj => by rw [h0 j hj]; rfl⟩
theorem find_range_n {n : Nat} {P : Nat → Bool} (h0 : ∀ r, r < n → P r = false) : (List.range n).find? P = none := by
  rw [List.find?_eq_none]
  intro x hx
  rw [h0 x (List.mem_range.mp hx)]
  decide
/-- the hash of record r's key -/
def rh (C : Nat → Nat) (p r : Nat) : Nat := hsh C (p * 256 + rst C p r + 2) (pb C p (rst C p r))
def allH (C : Nat → Nat) (p h : Nat) : Bool := (List.range (pb C p 1)).all (fun r => rh C p r == h)
def keq (C : Nat → Nat) (p a : Nat) (T : Nat → Nat) (z : Nat) : Bool := (List.range z).all (fun i => pb C p (a + i) == T i)
def isK (C : Nat → Nat) (p : Nat) (T : Nat → Nat) (z r : Nat) : Bool := pb C p (rst C p r) == z && keq C p (rst C p r + 2) T z
def fnd (C : Nat → Nat) (p : Nat) (T : Nat → Nat) (z : Nat) : Option Nat := (List.range (pb C p 1)).find? (isK C p T z)
def fndI (C : Nat → Nat) (p : Nat) (T : Nat → Nat) (z : Nat) : Int := match fnd C p T z with
  | some r => ((rst C p r : Nat) : Int)
  | none => -1
def bI (b : Bool) : Int := if b then 1 else 0
theorem bI_t {b : Bool} (h : b = true) : bI b = 1 := by rw [h]; rfl
theorem bI_f {b : Bool} (h : b = false) : bI b = 0 := by rw [h]; rfl
theorem bI_z (b : Bool) : narrow .boolean (.int (iI (bI b))) = .int (iI (bI b)) := by cases b <;> rfl
set_option maxHeartbeats 1000000 in
set_option maxRecDepth 20000 in
theorem z_X1_at {D : va_G} {cI cB cJ cZ : ClassId} {hd hc hk : Nat} {ko : Int} {pg lg : Nat} {wt al dn : Int} {C : Nat → Nat} {P I : Int} {p i : Nat} (hP : P = (p : Int)) (hI : I = (i : Int)) (hp : p < pg) (hi : i < 256) (hg : pg ≤ 255) : ∀ l, Rd l yX1_at cX1_at 3 (some .int) ({ frames := 0, cells := 0, slots := 0, locals := 0 }) D (TY cI cB cJ cZ) [.ref hd, .int (iI P), .int (iI I)] [oDisk hd hc hk ko pg lg wt al dn, aN cI hc 65280 C] (fun v => v = some (.int (iI ((pb C p i : Nat) : Int)))) := by
  intro l
  refine Rd_of (by decide) (Nat.le_of_ble_eq_true rfl) (fun x k hq => ?_)
  refine v_iload_n (n := 1) k dX1_at_0 rfl rfl ?_
  refine v_if_lt (n := 4) (t := 30) k (⟨by omega, by omega⟩) dX1_at_1 (by decide) rfl (fun c_1 => ?_) (fun c_1 => ?_)
  · exfalso; omega
  · refine v_iload_n (n := 5) k dX1_at_4 rfl rfl ?_
    refine v_aload_n (n := 6) k dX1_at_5 rfl rfl ?_
    refine v_get (n := 9) k ciX1 0 3 (by decide) fl_X1_19 rfl rfl dX1_at_6 rfl ?_
    refine v_icmp_ge (n := 12) (t := 30) k (⟨by omega, by omega⟩) (⟨by omega, by omega⟩) dX1_at_9 (by decide) rfl (fun c_9 => ?_) (fun c_9 => ?_)
    · exfalso; omega
    · refine v_iload_n (n := 13) k dX1_at_12 rfl rfl ?_
      refine v_sipush (n := 16) k dX1_at_13 (by decide) rfl ?_
      refine v_icmp_ge (n := 19) (t := 30) k (⟨by omega, by omega⟩) (⟨by omega, by omega⟩) dX1_at_16 (by decide) rfl (fun c_16 => ?_) (fun c_16 => ?_)
      · exfalso; omega
      · refine v_iload_n (n := 20) k dX1_at_19 rfl rfl ?_
        refine v_if_lt (n := 23) (t := 30) k (⟨by omega, by omega⟩) dX1_at_20 (by decide) rfl (fun c_20 => ?_) (fun c_20 => ?_)
        · exfalso; omega
        · refine v_iload_n (n := 24) k dX1_at_23 rfl rfl ?_
          refine v_sipush (n := 27) k dX1_at_24 (by decide) rfl ?_
          refine v_icmp_lt (n := 30) (t := 32) k (⟨by omega, by omega⟩) (⟨by omega, by omega⟩) dX1_at_27 (by decide) rfl (fun c_27 => ?_) (fun c_27 => ?_)
          · refine v_aload_n (n := 33) k dX1_at_32 rfl rfl ?_
            refine v_get (n := 36) k ciX1 0 0 (by decide) fl_X1_10 rfl rfl dX1_at_33 rfl ?_
            refine v_iload_n (n := 37) k dX1_at_36 rfl rfl ?_
            refine v_sipush (n := 40) k dX1_at_37 (by decide) rfl ?_
            refine v_imul (n := 41) k dX1_at_40 rfl ?_
            refine v_iload_n (n := 42) k dX1_at_41 rfl rfl ?_
            refine v_iadd (n := 43) k dX1_at_42 rfl ?_
            refine v_ialdN (n := 44) k 1 0 (p * 256 + i) rfl rfl (by omega) (by omega) (by omega) dX1_at_43 rfl ?_
            refine v_iretR k hq ?_ dX1_at_44
            rfl
          · exfalso; omega
set_option maxHeartbeats 1000000 in
set_option maxRecDepth 20000 in
theorem z_X1_atG {D : va_G} {cI cB cJ cZ : ClassId} {hd hc hk : Nat} {ko : Int} {pg lg : Nat} {wt al dn : Int} {C : Nat → Nat} {P I : Int} (hP : in32 P) (hI : in32 I) (hg : pg ≤ 255) : ∀ l, Rd l yX1_at cX1_at 3 (some .int) ({ frames := 0, cells := 0, slots := 0, locals := 0 }) D (TY cI cB cJ cZ) [.ref hd, .int (iI P), .int (iI I)] [oDisk hd hc hk ko pg lg wt al dn, aN cI hc 65280 C] (fun v => v = some (.int (iI (atF C pg P I)))) := by
  intro l
  refine Rd_of (by decide) (Nat.le_of_ble_eq_true rfl) (fun x k hq => ?_)
  obtain ⟨hp1, hp2⟩ := hP
  obtain ⟨hi1, hi2⟩ := hI
  refine v_iload_n (n := 1) k dX1_at_0 rfl rfl ?_
  refine v_if_lt (n := 4) (t := 30) k (⟨by omega, by omega⟩) dX1_at_1 (by decide) rfl (fun c_1 => ?_) (fun c_1 => ?_)
  · refine v_iconst (n := 31) k dX1_at_30 rfl ?_
    refine v_iretR k hq ?_ dX1_at_31
    rw [atF, if_neg (by omega)]
  · refine v_iload_n (n := 5) k dX1_at_4 rfl rfl ?_
    refine v_aload_n (n := 6) k dX1_at_5 rfl rfl ?_
    refine v_get (n := 9) k ciX1 0 3 (by decide) fl_X1_19 rfl rfl dX1_at_6 rfl ?_
    refine v_icmp_ge (n := 12) (t := 30) k (⟨by omega, by omega⟩) (⟨by omega, by omega⟩) dX1_at_9 (by decide) rfl (fun c_9 => ?_) (fun c_9 => ?_)
    · refine v_iconst (n := 31) k dX1_at_30 rfl ?_
      refine v_iretR k hq ?_ dX1_at_31
      rw [atF, if_neg (by omega)]
    · refine v_iload_n (n := 13) k dX1_at_12 rfl rfl ?_
      refine v_sipush (n := 16) k dX1_at_13 (by decide) rfl ?_
      refine v_icmp_ge (n := 19) (t := 30) k (⟨by omega, by omega⟩) (⟨by omega, by omega⟩) dX1_at_16 (by decide) rfl (fun c_16 => ?_) (fun c_16 => ?_)
      · refine v_iconst (n := 31) k dX1_at_30 rfl ?_
        refine v_iretR k hq ?_ dX1_at_31
        rw [atF, if_neg (by omega)]
      · refine v_iload_n (n := 20) k dX1_at_19 rfl rfl ?_
        refine v_if_lt (n := 23) (t := 30) k (⟨by omega, by omega⟩) dX1_at_20 (by decide) rfl (fun c_20 => ?_) (fun c_20 => ?_)
        · refine v_iconst (n := 31) k dX1_at_30 rfl ?_
          refine v_iretR k hq ?_ dX1_at_31
          rw [atF, if_neg (by omega)]
        · refine v_iload_n (n := 24) k dX1_at_23 rfl rfl ?_
          refine v_sipush (n := 27) k dX1_at_24 (by decide) rfl ?_
          refine v_icmp_lt (n := 30) (t := 32) k (⟨by omega, by omega⟩) (⟨by omega, by omega⟩) dX1_at_27 (by decide) rfl (fun c_27 => ?_) (fun c_27 => ?_)
          · refine v_aload_n (n := 33) k dX1_at_32 rfl rfl ?_
            refine v_get (n := 36) k ciX1 0 0 (by decide) fl_X1_10 rfl rfl dX1_at_33 rfl ?_
            refine v_iload_n (n := 37) k dX1_at_36 rfl rfl ?_
            refine v_sipush (n := 40) k dX1_at_37 (by decide) rfl ?_
            refine v_imul (n := 41) k dX1_at_40 rfl ?_
            refine v_iload_n (n := 42) k dX1_at_41 rfl rfl ?_
            refine v_iadd (n := 43) k dX1_at_42 rfl ?_
            refine v_ialdN (n := 44) k 1 0 ((P * 256 + I).toNat) rfl rfl (by omega) (by omega) (by omega) dX1_at_43 rfl ?_
            refine v_iretR k hq ?_ dX1_at_44
            rw [atF, if_pos ⟨by omega, by omega, by omega, by omega⟩]
          · refine v_iconst (n := 31) k dX1_at_30 rfl ?_
            refine v_iretR k hq ?_ dX1_at_31
            rw [atF, if_neg (by omega)]
def pgF (pg : Nat) (P : Int) : Bool := decide (0 ≤ P ∧ P < (pg : Int))
set_option maxHeartbeats 1000000 in
set_option maxRecDepth 20000 in
theorem z_X1_isPage {D : va_G} {cI cB cJ cZ : ClassId} {hd hc hk : Nat} {ko : Int} {pg lg : Nat} {wt al dn : Int} {P : Int} (hp : in32 P) (hg : pg ≤ 255) : ∀ l, Rd l yX1_isPage cX1_isPage 2 (some .boolean) ({ frames := 0, cells := 0, slots := 0, locals := 0 }) D (TY cI cB cJ cZ) [.ref hd, .int (iI P)] [oDisk hd hc hk ko pg lg wt al dn] (fun v => v = some (.int (iI (bI (pgF pg P))))) := by
  intro l
  refine Rd_of (by decide) (Nat.le_of_ble_eq_true rfl) (fun x k hq => ?_)
  obtain ⟨hp1, hp2⟩ := hp
  refine v_iload_n (n := 1) k dX1_isPage_0 rfl rfl ?_
  refine v_if_lt (n := 4) (t := 23) k (⟨by omega, by omega⟩) dX1_isPage_1 (by decide) rfl (fun c_1 => ?_) (fun c_1 => ?_)
  · refine v_iconst (n := 24) k dX1_isPage_23 rfl ?_
    refine v_zretR k (by decide) hq ?_ dX1_isPage_24
    first | rw [bI_f (by unfold pgF; exact decide_eq_false (by omega))] | rw [bI_t (by unfold pgF; exact decide_eq_true (by omega))]
  · refine v_iload_n (n := 5) k dX1_isPage_4 rfl rfl ?_
    refine v_aload_n (n := 6) k dX1_isPage_5 rfl rfl ?_
    refine v_get (n := 9) k ciX1 0 3 (by decide) fl_X1_19 rfl rfl dX1_isPage_6 rfl ?_
    refine v_icmp_ge (n := 12) (t := 23) k (⟨by omega, by omega⟩) (⟨by omega, by omega⟩) dX1_isPage_9 (by decide) rfl (fun c_9 => ?_) (fun c_9 => ?_)
    · refine v_iconst (n := 24) k dX1_isPage_23 rfl ?_
      refine v_zretR k (by decide) hq ?_ dX1_isPage_24
      first | rw [bI_f (by unfold pgF; exact decide_eq_false (by omega))] | rw [bI_t (by unfold pgF; exact decide_eq_true (by omega))]
    · refine v_iload_n (n := 13) k dX1_isPage_12 rfl rfl ?_
      refine v_sipush (n := 16) k dX1_isPage_13 (by decide) rfl ?_
      refine v_icmp_ge (n := 19) (t := 23) k (⟨by omega, by omega⟩) (⟨by omega, by omega⟩) dX1_isPage_16 (by decide) rfl (fun c_16 => ?_) (fun c_16 => ?_)
      · refine v_iconst (n := 24) k dX1_isPage_23 rfl ?_
        refine v_zretR k (by decide) hq ?_ dX1_isPage_24
        first | rw [bI_f (by unfold pgF; exact decide_eq_false (by omega))] | rw [bI_t (by unfold pgF; exact decide_eq_true (by omega))]
      · refine v_iconst (n := 20) k dX1_isPage_19 rfl ?_
        refine v_goto (t := 24) k dX1_isPage_20 (by decide) ?_
        refine v_zretR k (by decide) hq ?_ dX1_isPage_24
        first | rw [bI_f (by unfold pgF; exact decide_eq_false (by omega))] | rw [bI_t (by unfold pgF; exact decide_eq_true (by omega))]
set_option maxHeartbeats 1000000 in
set_option maxRecDepth 20000 in
theorem z_X1_pages {D : va_G} {cI cB cJ cZ : ClassId} {hd hc hk : Nat} {ko : Int} {pg lg : Nat} {wt al dn : Int}  : ∀ l, Rd l yX1_pages cX1_pages 1 (some .int) ({ frames := 0, cells := 0, slots := 0, locals := 0 }) D (TY cI cB cJ cZ) [.ref hd] [oDisk hd hc hk ko pg lg wt al dn] (fun v => v = some (.int (iI (pg : Int)))) := by
  intro l
  refine Rd_of (by decide) (Nat.le_of_ble_eq_true rfl) (fun x k hq => ?_)
  refine v_aload_n (n := 1) k dX1_pages_0 rfl rfl ?_
  refine v_get (n := 4) k ciX1 0 3 (by decide) fl_X1_19 rfl rfl dX1_pages_1 rfl ?_
  refine v_iretR k hq ?_ dX1_pages_4
  rfl
set_option maxHeartbeats 1000000 in
set_option maxRecDepth 20000 in
theorem z_X1_log {D : va_G} {cI cB cJ cZ : ClassId} {hd hc hk : Nat} {ko : Int} {pg lg : Nat} {wt al dn : Int}  : ∀ l, Rd l yX1_log cX1_log 1 (some .int) ({ frames := 0, cells := 0, slots := 0, locals := 0 }) D (TY cI cB cJ cZ) [.ref hd] [oDisk hd hc hk ko pg lg wt al dn] (fun v => v = some (.int (iI (lg : Int)))) := by
  intro l
  refine Rd_of (by decide) (Nat.le_of_ble_eq_true rfl) (fun x k hq => ?_)
  refine v_aload_n (n := 1) k dX1_log_0 rfl rfl ?_
  refine v_get (n := 4) k ciX1 0 4 (by decide) fl_X1_23 rfl rfl dX1_log_1 rfl ?_
  refine v_iretR k hq ?_ dX1_log_4
  rfl
set_option maxHeartbeats 1000000 in
set_option maxRecDepth 20000 in
theorem z_X1_writes {D : va_G} {cI cB cJ cZ : ClassId} {hd hc hk : Nat} {ko : Int} {pg lg : Nat} {wt al dn : Int}  : ∀ l, Rd l yX1_writes cX1_writes 1 (some .int) ({ frames := 0, cells := 0, slots := 0, locals := 0 }) D (TY cI cB cJ cZ) [.ref hd] [oDisk hd hc hk ko pg lg wt al dn] (fun v => v = some (.int (iI wt))) := by
  intro l
  refine Rd_of (by decide) (Nat.le_of_ble_eq_true rfl) (fun x k hq => ?_)
  refine v_aload_n (n := 1) k dX1_writes_0 rfl rfl ?_
  refine v_get (n := 4) k ciX1 0 5 (by decide) fl_X1_26 rfl rfl dX1_writes_1 rfl ?_
  refine v_iretR k hq ?_ dX1_writes_4
  rfl
set_option maxHeartbeats 1000000 in
set_option maxRecDepth 20000 in
theorem z_X1_allowed {D : va_G} {cI cB cJ cZ : ClassId} {hd hc hk : Nat} {ko : Int} {pg lg : Nat} {wt al dn : Int}  : ∀ l, Rd l yX1_allowed cX1_allowed 1 (some .int) ({ frames := 0, cells := 0, slots := 0, locals := 0 }) D (TY cI cB cJ cZ) [.ref hd] [oDisk hd hc hk ko pg lg wt al dn] (fun v => v = some (.int (iI al))) := by
  intro l
  refine Rd_of (by decide) (Nat.le_of_ble_eq_true rfl) (fun x k hq => ?_)
  refine v_aload_n (n := 1) k dX1_allowed_0 rfl rfl ?_
  refine v_get (n := 4) k ciX1 0 6 (by decide) fl_X1_64 rfl rfl dX1_allowed_1 rfl ?_
  refine v_iretR k hq ?_ dX1_allowed_4
  rfl
set_option maxHeartbeats 1000000 in
set_option maxRecDepth 20000 in
theorem z_X1_isDown {D : va_G} {cI cB cJ cZ : ClassId} {hd hc hk : Nat} {ko : Int} {pg lg : Nat} {wt al dn : Int} (hdn : dn = 0 ∨ dn = 1) : ∀ l, Rd l yX1_isDown cX1_isDown 1 (some .boolean) ({ frames := 0, cells := 0, slots := 0, locals := 0 }) D (TY cI cB cJ cZ) [.ref hd] [oDisk hd hc hk ko pg lg wt al dn] (fun v => v = some (.int (iI dn))) := by
  intro l
  refine Rd_of (by decide) (Nat.le_of_ble_eq_true rfl) (fun x k hq => ?_)
  refine v_aload_n (n := 1) k dX1_isDown_0 rfl rfl ?_
  refine v_get (n := 4) k ciX1 0 7 (by decide) fl_X1_67 rfl rfl dX1_isDown_1 rfl ?_
  refine v_zretR k (by rcases hdn with rfl | rfl <;> rfl) hq ?_ dX1_isDown_4
  rfl
set_option maxHeartbeats 1000000 in
set_option maxRecDepth 20000 in
theorem z_X1_allow {D : va_G} {cI cB cJ cZ : ClassId} {hd hc hk : Nat} {ko : Int} {pg lg : Nat} {wt al dn : Int} {n : Int}  : ∀ l, Up l yX1_allow cX1_allow 2 none ({ frames := 0, cells := 0, slots := 0, locals := 0 }) D (TY cI cB cJ cZ) [.ref hd, .int (iI n)] [oDisk hd hc hk ko pg lg wt al dn] (fun r w1 => r = none ∧ w1 = [oDisk hd hc hk ko pg lg wt n 0]) := by
  intro l
  refine Up_of (by decide) (Nat.le_of_ble_eq_true rfl) (fun x k hq => ?_)
  refine v_aload_n (n := 1) k dX1_allow_0 rfl rfl ?_
  refine v_iconst (n := 2) k dX1_allow_1 rfl ?_
  refine v_put (n := 5) k ciX1 0 7 (by decide) fl_X1_67 rfl rfl (rfl) (rfl) (Nat.le_of_ble_eq_true rfl) dX1_allow_2 rfl ?_
  refine v_aload_n (n := 6) k dX1_allow_5 rfl rfl ?_
  refine v_iload_n (n := 7) k dX1_allow_6 rfl rfl ?_
  refine v_put (n := 10) k ciX1 0 6 (by decide) fl_X1_64 rfl rfl (rfl) (rfl) (Nat.le_of_ble_eq_true rfl) dX1_allow_7 rfl ?_
  refine v_vretU k hq ?_ rfl dX1_allow_10
  exact ⟨rfl, rfl⟩
set_option maxHeartbeats 1000000 in
set_option maxRecDepth 20000 in
theorem z_X1_depth {D : va_G} {cI cB cJ cZ : ClassId} {hd hc hk : Nat} {ko : Int} {pg lg : Nat} {wt al dn : Int} {C : Nat → Nat} (hw : DW C pg lg) : ∀ l, Rd l yX1_depth cX1_depth 1 (some .int) ({ frames := 1, cells := 0, slots := 0, locals := 22 }) D (TY cI cB cJ cZ) [.ref hd] [oDisk hd hc hk ko pg lg wt al dn, aN cI hc 65280 C] (fun v => v = some (.int (iI ((C 0 : Nat) : Int)))) := by
  intro l
  refine Rd_of (by decide) (Nat.le_of_ble_eq_true rfl) (fun x k hq => ?_)
  obtain ⟨w1, w2, w3, w4, w5, w6, w7⟩ := id hw
  refine v_aload_n (n := 1) k dX1_depth_0 rfl rfl ?_
  refine v_iconst (n := 2) k dX1_depth_1 rfl ?_
  refine v_iconst (n := 3) k dX1_depth_2 rfl ?_
  refine v_rdVi (n := 6) k [0, 1] 0 (z_X1_at (p := 0) (i := 0) rfl rfl (by omega) (by omega) w2) miX1_at ml_X1_70 (by decide) (by decide) rfl (by decide) rfl rfl rfl rfl (Nat.le_of_ble_eq_true rfl) ⟨Nat.zero_le _, Nat.zero_le _⟩ dX1_depth_3 rfl ?_
  refine v_iretR k hq ?_ dX1_depth_6
  rfl
set_option maxHeartbeats 1000000 in
set_option maxRecDepth 20000 in
theorem z_X1_directoryPage {D : va_G} {cI cB cJ cZ : ClassId} {hd hc hk : Nat} {ko : Int} {pg lg : Nat} {wt al dn : Int} {C : Nat → Nat} {K : Int} {kk : Nat} (hw : DW C pg lg) (hK : K = (kk : Int)) (hkk : kk < 255) : ∀ l, Rd l yX1_directoryPage cX1_directoryPage 2 (some .int) ({ frames := 1, cells := 0, slots := 0, locals := 22 }) D (TY cI cB cJ cZ) [.ref hd, .int (iI K)] [oDisk hd hc hk ko pg lg wt al dn, aN cI hc 65280 C] (fun v => v = some (.int (iI ((pb C 0 (1 + kk) : Nat) : Int)))) := by
  intro l
  refine Rd_of (by decide) (Nat.le_of_ble_eq_true rfl) (fun x k hq => ?_)
  obtain ⟨w1, w2, w3, w4, w5, w6, w7⟩ := id hw
  refine v_aload_n (n := 1) k dX1_directoryPage_0 rfl rfl ?_
  refine v_iconst (n := 2) k dX1_directoryPage_1 rfl ?_
  refine v_iconst (n := 3) k dX1_directoryPage_2 rfl ?_
  refine v_iload_n (n := 4) k dX1_directoryPage_3 rfl rfl ?_
  refine v_iadd (n := 5) k dX1_directoryPage_4 rfl ?_
  refine v_rdVi (n := 8) k [0, 1] 0 (z_X1_at (p := 0) (i := 1 + kk) rfl (by omega) (by omega) (by omega) w2) miX1_at ml_X1_70 (by decide) (by decide) rfl (by decide) rfl rfl rfl rfl (Nat.le_of_ble_eq_true rfl) ⟨Nat.zero_le _, Nat.zero_le _⟩ dX1_directoryPage_5 rfl ?_
  refine v_iretR k hq ?_ dX1_directoryPage_8
  rfl
set_option maxHeartbeats 1000000 in
set_option maxRecDepth 20000 in
theorem z_X1_entryAt {D : va_G} {cI cB cJ cZ : ClassId} {hd hc hk : Nat} {ko : Int} {pg lg : Nat} {wt al dn : Int} {C : Nat → Nat} {I : Int} {i : Nat} (hw : DW C pg lg) (hI : I = (i : Int)) (hi : i < 2 ^ C 0) : ∀ l, Rd l yX1_entryAt cX1_entryAt 2 (some .int) ({ frames := 2, cells := 0, slots := 0, locals := 43 }) D (TY cI cB cJ cZ) [.ref hd, .int (iI I)] [oDisk hd hc hk ko pg lg wt al dn, aN cI hc 65280 C] (fun v => v = some (.int (iI ((entN C i : Nat) : Int)))) := by
  intro l
  refine Rd_of (by decide) (Nat.le_of_ble_eq_true rfl) (fun x k hq => ?_)
  obtain ⟨w1, w2, w3, w4, w5, w6, w7⟩ := id hw
  have hd16 : 2 ^ C 0 ≤ 32768 := Nat.le_trans (Nat.pow_le_pow_right (n := 2) (j := 15) (by decide) w4) (by decide)
  refine v_iload_n (n := 1) k dX1_entryAt_0 rfl rfl ?_
  refine v_if_lt (n := 4) (t := 14) k (⟨by omega, by omega⟩) dX1_entryAt_1 (by decide) rfl (fun c_1 => ?_) (fun c_1 => ?_)
  · exfalso; omega
  · refine v_iload_n (n := 5) k dX1_entryAt_4 rfl rfl ?_
    refine v_iconst (n := 6) k dX1_entryAt_5 rfl ?_
    refine v_aload_n (n := 7) k dX1_entryAt_6 rfl rfl ?_
    refine v_rdVi (n := 10) k [0, 1] 0 (z_X1_depth hw) miX1_depth ml_X1_74 (by decide) (by decide) rfl (by decide) rfl rfl rfl rfl (Nat.le_of_ble_eq_true rfl) ⟨Nat.zero_le _, Nat.zero_le _⟩ dX1_entryAt_7 rfl ?_
    refine v_ishl (n := 11) k (((1 * 2 ^ C 0 : Nat) : Int)) (ax_shl rfl rfl (by omega) (by omega)) dX1_entryAt_10 rfl ?_
    refine v_icmp_lt (n := 14) (t := 16) k (⟨by omega, by omega⟩) (⟨by omega, by omega⟩) dX1_entryAt_11 (by decide) rfl (fun c_11 => ?_) (fun c_11 => ?_)
    · refine v_aload_n (n := 17) k dX1_entryAt_16 rfl rfl ?_
      refine v_aload_n (n := 18) k dX1_entryAt_17 rfl rfl ?_
      refine v_iload_n (n := 19) k dX1_entryAt_18 rfl rfl ?_
      refine v_sipush (n := 22) k dX1_entryAt_19 (by decide) rfl ?_
      refine v_idiv (n := 23) k (((i / 256 : Nat) : Int)) (ax_ne0 (by omega) (by omega)) (ax_div (by omega) rfl (by omega) (by omega) (by omega)) dX1_entryAt_22 rfl ?_
      refine v_rdVi (n := 26) k [0, 1] 0 (z_X1_directoryPage hw (kk := i / 256) rfl (by omega)) miX1_directoryPage ml_X1_78 (by decide) (by decide) rfl (by decide) rfl rfl rfl rfl (Nat.le_of_ble_eq_true rfl) ⟨Nat.zero_le _, Nat.zero_le _⟩ dX1_entryAt_23 rfl ?_
      refine v_iload_n (n := 27) k dX1_entryAt_26 rfl rfl ?_
      refine v_sipush (n := 30) k dX1_entryAt_27 (by decide) rfl ?_
      refine v_irem (n := 31) k (((i % 256 : Nat) : Int)) (ax_ne0 (by omega) (by omega)) (ax_rem (by omega) rfl (by omega) (by omega) (by omega)) dX1_entryAt_30 rfl ?_
      refine v_rdVi (n := 34) k [0, 1] 0 (z_X1_at (p := pb C 0 (1 + i / 256)) (i := i % 256) rfl rfl (by have := w5 (i / 256) (pF_idx (by omega)); unfold pb; rw [Nat.zero_mul, Nat.zero_add]; exact this) (by omega) w2) miX1_at ml_X1_70 (by decide) (by decide) rfl (by decide) rfl rfl rfl rfl (Nat.le_of_ble_eq_true rfl) ⟨Nat.zero_le _, Nat.zero_le _⟩ dX1_entryAt_31 rfl ?_
      refine v_iretR k hq ?_ dX1_entryAt_34
      rfl
    · exfalso; omega
set_option maxHeartbeats 1000000 in
set_option maxRecDepth 20000 in
theorem z_X1_entryAtG {D : va_G} {cI cB cJ cZ : ClassId} {hd hc hk : Nat} {ko : Int} {pg lg : Nat} {wt al dn : Int} {C : Nat → Nat} {I : Int} (hw : DW C pg lg) (hI : in32 I) : ∀ l, Rd l yX1_entryAt cX1_entryAt 2 (some .int) ({ frames := 2, cells := 0, slots := 0, locals := 43 }) D (TY cI cB cJ cZ) [.ref hd, .int (iI I)] [oDisk hd hc hk ko pg lg wt al dn, aN cI hc 65280 C] (fun v => v = some (.int (iI (entF C I)))) := by
  intro l
  refine Rd_of (by decide) (Nat.le_of_ble_eq_true rfl) (fun x k hq => ?_)
  obtain ⟨w1, w2, w3, w4, w5, w6, w7⟩ := id hw
  have hd16 : 2 ^ C 0 ≤ 32768 := Nat.le_trans (Nat.pow_le_pow_right (n := 2) (j := 15) (by decide) w4) (by decide)
  obtain ⟨hi1, hi2⟩ := hI
  refine v_iload_n (n := 1) k dX1_entryAt_0 rfl rfl ?_
  refine v_if_lt (n := 4) (t := 14) k (⟨by omega, by omega⟩) dX1_entryAt_1 (by decide) rfl (fun c_1 => ?_) (fun c_1 => ?_)
  · refine v_iconst (n := 15) k dX1_entryAt_14 rfl ?_
    refine v_iretR k hq ?_ dX1_entryAt_15
    rw [entF, if_neg (by omega)]
  · refine v_iload_n (n := 5) k dX1_entryAt_4 rfl rfl ?_
    refine v_iconst (n := 6) k dX1_entryAt_5 rfl ?_
    refine v_aload_n (n := 7) k dX1_entryAt_6 rfl rfl ?_
    refine v_rdVi (n := 10) k [0, 1] 0 (z_X1_depth hw) miX1_depth ml_X1_74 (by decide) (by decide) rfl (by decide) rfl rfl rfl rfl (Nat.le_of_ble_eq_true rfl) ⟨Nat.zero_le _, Nat.zero_le _⟩ dX1_entryAt_7 rfl ?_
    refine v_ishl (n := 11) k (((1 * 2 ^ C 0 : Nat) : Int)) (ax_shl rfl rfl (by omega) (by omega)) dX1_entryAt_10 rfl ?_
    refine v_icmp_lt (n := 14) (t := 16) k (⟨by omega, by omega⟩) (⟨by omega, by omega⟩) dX1_entryAt_11 (by decide) rfl (fun c_11 => ?_) (fun c_11 => ?_)
    · refine v_aload_n (n := 17) k dX1_entryAt_16 rfl rfl ?_
      refine v_aload_n (n := 18) k dX1_entryAt_17 rfl rfl ?_
      refine v_iload_n (n := 19) k dX1_entryAt_18 rfl rfl ?_
      refine v_sipush (n := 22) k dX1_entryAt_19 (by decide) rfl ?_
      refine v_idiv (n := 23) k (((I.toNat / 256 : Nat) : Int)) (ax_ne0 (by omega) (by omega)) (ax_div (by omega) rfl (by omega) (by omega) (by omega)) dX1_entryAt_22 rfl ?_
      refine v_rdVi (n := 26) k [0, 1] 0 (z_X1_directoryPage hw (kk := I.toNat / 256) rfl (by omega)) miX1_directoryPage ml_X1_78 (by decide) (by decide) rfl (by decide) rfl rfl rfl rfl (Nat.le_of_ble_eq_true rfl) ⟨Nat.zero_le _, Nat.zero_le _⟩ dX1_entryAt_23 rfl ?_
      refine v_iload_n (n := 27) k dX1_entryAt_26 rfl rfl ?_
      refine v_sipush (n := 30) k dX1_entryAt_27 (by decide) rfl ?_
      refine v_irem (n := 31) k (((I.toNat % 256 : Nat) : Int)) (ax_ne0 (by omega) (by omega)) (ax_rem (by omega) rfl (by omega) (by omega) (by omega)) dX1_entryAt_30 rfl ?_
      refine v_rdVi (n := 34) k [0, 1] 0 (z_X1_at (p := pb C 0 (1 + I.toNat / 256)) (i := I.toNat % 256) rfl rfl (by have := w5 (I.toNat / 256) (pF_idx (by omega)); unfold pb; rw [Nat.zero_mul, Nat.zero_add]; exact this) (by omega) w2) miX1_at ml_X1_70 (by decide) (by decide) rfl (by decide) rfl rfl rfl rfl (Nat.le_of_ble_eq_true rfl) ⟨Nat.zero_le _, Nat.zero_le _⟩ dX1_entryAt_31 rfl ?_
      refine v_iretR k hq ?_ dX1_entryAt_34
      rw [entF, if_pos ⟨by omega, by omega⟩]; rfl
    · refine v_iconst (n := 15) k dX1_entryAt_14 rfl ?_
      refine v_iretR k hq ?_ dX1_entryAt_15
      rw [entF, if_neg (by omega)]
set_option maxHeartbeats 1000000 in
set_option maxRecDepth 20000 in
theorem z_X1_indexOf {D : va_G} {cI cB cJ cZ : ClassId} {hd hc hk : Nat} {ko : Int} {pg lg : Nat} {wt al dn : Int} {C : Nat → Nat} {H : Int} {h : Nat} (hw : DW C pg lg) (hH : H = (h : Int)) (hh : h < 65536) : ∀ l, Rd l yX1_indexOf cX1_indexOf 2 (some .int) ({ frames := 2, cells := 0, slots := 0, locals := 42 }) D (TY cI cB cJ cZ) [.ref hd, .int (iI H)] [oDisk hd hc hk ko pg lg wt al dn, aN cI hc 65280 C] (fun v => v = some (.int (iI ((idx C h : Nat) : Int)))) := by
  intro l
  refine Rd_of (by decide) (Nat.le_of_ble_eq_true rfl) (fun x k hq => ?_)
  obtain ⟨w1, w2, w3, w4, w5, w6, w7⟩ := id hw
  refine v_iload_n (n := 1) k dX1_indexOf_0 rfl rfl ?_
  refine v_bipush (n := 3) k dX1_indexOf_1 (by decide) rfl ?_
  refine v_aload_n (n := 4) k dX1_indexOf_3 rfl rfl ?_
  refine v_rdVi (n := 7) k [0, 1] 0 (z_X1_depth hw) miX1_depth ml_X1_74 (by decide) (by decide) rfl (by decide) rfl rfl rfl rfl (Nat.le_of_ble_eq_true rfl) ⟨Nat.zero_le _, Nat.zero_le _⟩ dX1_indexOf_4 rfl ?_
  refine v_isub (n := 8) k dX1_indexOf_7 rfl ?_
  refine v_ishr (n := 9) k (((h / 2 ^ (16 - C 0) : Nat) : Int)) (ax_shr (by omega) (by omega) (by omega) (by omega)) dX1_indexOf_8 rfl ?_
  refine v_iretR k hq ?_ dX1_indexOf_9
  rfl
set_option maxHeartbeats 1000000 in
set_option maxRecDepth 20000 in
theorem z_X1_bucketOf {D : va_G} {cI cB cJ cZ : ClassId} {hd hc hk : Nat} {ko : Int} {pg lg : Nat} {wt al dn : Int} {C : Nat → Nat} {H : Int} {h : Nat} (hw : DW C pg lg) (hH : H = (h : Int)) (hh : h < 65536) : ∀ l, Rd l yX1_bucketOf cX1_bucketOf 2 (some .int) ({ frames := 3, cells := 0, slots := 0, locals := 64 }) D (TY cI cB cJ cZ) [.ref hd, .int (iI H)] [oDisk hd hc hk ko pg lg wt al dn, aN cI hc 65280 C] (fun v => v = some (.int (iI ((entN C (idx C h) : Nat) : Int)))) := by
  intro l
  refine Rd_of (by decide) (Nat.le_of_ble_eq_true rfl) (fun x k hq => ?_)
  obtain ⟨w1, w2, w3, w4, w5, w6, w7⟩ := id hw
  refine v_aload_n (n := 1) k dX1_bucketOf_0 rfl rfl ?_
  refine v_aload_n (n := 2) k dX1_bucketOf_1 rfl rfl ?_
  refine v_iload_n (n := 3) k dX1_bucketOf_2 rfl rfl ?_
  refine v_rdVi (n := 6) k [0, 1] 0 (z_X1_indexOf hw (h := h) hH hh) miX1_indexOf ml_X1_82 (by decide) (by decide) rfl (by decide) rfl rfl rfl rfl (Nat.le_of_ble_eq_true rfl) ⟨Nat.zero_le _, Nat.zero_le _⟩ dX1_bucketOf_3 rfl ?_
  refine v_rdVi (n := 9) k [0, 1] 0 (z_X1_entryAt hw (i := idx C h) rfl (idx_lt hh w4)) miX1_entryAt ml_X1_85 (by decide) (by decide) rfl (by decide) rfl rfl rfl rfl (Nat.le_of_ble_eq_true rfl) ⟨Nat.zero_le _, Nat.zero_le _⟩ dX1_bucketOf_6 rfl ?_
  refine v_iretR k hq ?_ dX1_bucketOf_9
  rfl
set_option maxHeartbeats 1000000 in
set_option maxRecDepth 20000 in
theorem z_X1_recordBytes {D : va_G} {cI cB cJ cZ : ClassId} {hd hc hk : Nat} {ko : Int} {pg lg : Nat} {wt al dn : Int} {C : Nat → Nat} {P : Int} {p : Nat} (hP : P = (p : Int)) (hp : p < pg) (hg : pg ≤ 255) : ∀ l, Rd l yX1_recordBytes cX1_recordBytes 2 (some .int) ({ frames := 1, cells := 0, slots := 0, locals := 22 }) D (TY cI cB cJ cZ) [.ref hd, .int (iI P)] [oDisk hd hc hk ko pg lg wt al dn, aN cI hc 65280 C] (fun v => v = some (.int (iI ((bL C p : Nat) : Int)))) := by
  intro l
  refine Rd_of (by decide) (Nat.le_of_ble_eq_true rfl) (fun x k hq => ?_)
  refine v_aload_n (n := 1) k dX1_recordBytes_0 rfl rfl ?_
  refine v_iload_n (n := 2) k dX1_recordBytes_1 rfl rfl ?_
  refine v_iconst (n := 3) k dX1_recordBytes_2 rfl ?_
  refine v_rdVi (n := 6) k [0, 1] 0 (z_X1_at (p := p) (i := 2) hP rfl hp (by omega) hg) miX1_at ml_X1_70 (by decide) (by decide) rfl (by decide) rfl rfl rfl rfl (Nat.le_of_ble_eq_true rfl) ⟨Nat.zero_le _, Nat.zero_le _⟩ dX1_recordBytes_3 rfl ?_
  refine v_sipush (n := 9) k dX1_recordBytes_6 (by decide) rfl ?_
  refine v_imul (n := 10) k dX1_recordBytes_9 rfl ?_
  refine v_aload_n (n := 11) k dX1_recordBytes_10 rfl rfl ?_
  refine v_iload_n (n := 12) k dX1_recordBytes_11 rfl rfl ?_
  refine v_iconst (n := 13) k dX1_recordBytes_12 rfl ?_
  refine v_rdVi (n := 16) k [0, 1] 0 (z_X1_at (p := p) (i := 3) hP rfl hp (by omega) hg) miX1_at ml_X1_70 (by decide) (by decide) rfl (by decide) rfl rfl rfl rfl (Nat.le_of_ble_eq_true rfl) ⟨Nat.zero_le _, Nat.zero_le _⟩ dX1_recordBytes_13 rfl ?_
  refine v_iadd (n := 17) k dX1_recordBytes_16 rfl ?_
  refine v_iretR k hq ?_ dX1_recordBytes_17
  rfl
set_option maxHeartbeats 1000000 in
set_option maxRecDepth 20000 in
theorem z_X1_recordSize {D : va_G} {cI cB cJ cZ : ClassId} {hd hc hk : Nat} {ko : Int} {pg lg : Nat} {wt al dn : Int} {C : Nat → Nat} {P S : Int} {p s : Nat} (hP : P = (p : Int)) (hp : p < pg) (hg : pg ≤ 255) (hS : S = (s : Int)) (hs : s + 1 < 256) : ∀ l, Rd l yX1_recordSize cX1_recordSize 3 (some .int) ({ frames := 1, cells := 0, slots := 0, locals := 22 }) D (TY cI cB cJ cZ) [.ref hd, .int (iI P), .int (iI S)] [oDisk hd hc hk ko pg lg wt al dn, aN cI hc 65280 C] (fun v => v = some (.int (iI ((rsz C p s : Nat) : Int)))) := by
  intro l
  refine Rd_of (by decide) (Nat.le_of_ble_eq_true rfl) (fun x k hq => ?_)
  refine v_iconst (n := 1) k dX1_recordSize_0 rfl ?_
  refine v_aload_n (n := 2) k dX1_recordSize_1 rfl rfl ?_
  refine v_iload_n (n := 3) k dX1_recordSize_2 rfl rfl ?_
  refine v_iload_n (n := 4) k dX1_recordSize_3 rfl rfl ?_
  refine v_rdVi (n := 7) k [0, 1] 0 (z_X1_at (p := p) (i := s) hP hS hp (by omega) hg) miX1_at ml_X1_70 (by decide) (by decide) rfl (by decide) rfl rfl rfl rfl (Nat.le_of_ble_eq_true rfl) ⟨Nat.zero_le _, Nat.zero_le _⟩ dX1_recordSize_4 rfl ?_
  refine v_iadd (n := 8) k dX1_recordSize_7 rfl ?_
  refine v_aload_n (n := 9) k dX1_recordSize_8 rfl rfl ?_
  refine v_iload_n (n := 10) k dX1_recordSize_9 rfl rfl ?_
  refine v_iload_n (n := 11) k dX1_recordSize_10 rfl rfl ?_
  refine v_iconst (n := 12) k dX1_recordSize_11 rfl ?_
  refine v_iadd (n := 13) k dX1_recordSize_12 rfl ?_
  refine v_rdVi (n := 16) k [0, 1] 0 (z_X1_at (p := p) (i := s + 1) hP (by omega) hp (by omega) hg) miX1_at ml_X1_70 (by decide) (by decide) rfl (by decide) rfl rfl rfl rfl (Nat.le_of_ble_eq_true rfl) ⟨Nat.zero_le _, Nat.zero_le _⟩ dX1_recordSize_13 rfl ?_
  refine v_iadd (n := 17) k dX1_recordSize_16 rfl ?_
  refine v_iretR k hq ?_ dX1_recordSize_17
  rfl
set_option maxHeartbeats 1000000 in
set_option maxRecDepth 20000 in
theorem lp_X1_recordStart {D : va_G} {cI cB cJ cZ : ClassId} {x : Kx} {hd hc hk : Nat} {ko : Int} {pg lg : Nat} {wt al dn : Int} {C : Nat → Nat} {P N : Int} {p n : Nat} (k : Kf x cX1_recordStart 5 yX1_recordStart.cls (some .int) D (TY cI cB cJ cZ) ({ frames := 2, cells := 0, slots := 0, locals := 44 })) (hq : isR x (fun v => v = some (.int (iI ((rst C p n : Nat) : Int))))) (hP : P = (p : Int)) (hp : p < pg) (hg : pg ≤ 255) (hN : N = (n : Int)) (hb : WB C p) (hn : n ≤ pb C p 1) (hC : ∀ j, C j < 256) : ∀ (m : Nat) (i : Nat) (S I : Int), n < i + m → i ≤ n → I = (i : Int) → S = ((rst C p i : Nat) : Int) → Vw x 5 (fun _ => True) D false 0 0 [oDisk hd hc hk ko pg lg wt al dn, aN cI hc 65280 C] 5 [(0, .ref hd), (1, .int (iI P)), (2, .int (iI N)), (3, .int (iI S)), (4, .int (iI I))] [] := by
  intro m
  induction m with
  | zero => intro i S I hm hi e1 e2; omega
  | succ m ih =>
    intro i S I hm hi e1 e2
    have hpb : pb C p 1 < 256 := hC _
    refine v_iload (n := 7) k dX1_recordStart_5 rfl rfl ?_
    refine v_iload_n (n := 8) k dX1_recordStart_7 rfl rfl ?_
    refine v_icmp_ge (n := 11) (t := 26) k (⟨by omega, by omega⟩) (⟨by omega, by omega⟩) dX1_recordStart_8 (by decide) rfl (fun c_8 => ?_) (fun c_8 => ?_)
    · refine v_iload_n (n := 27) k dX1_recordStart_26 rfl rfl ?_
      refine v_iretR k hq ?_ dX1_recordStart_27
      have e : i = n := by omega
      rw [e2, e]
    · have hf := hb.fit (r := i) (by omega)
      have hz9 := rsz_ge C p (rst C p i)
      refine v_iload_n (n := 12) k dX1_recordStart_11 rfl rfl ?_
      refine v_aload_n (n := 13) k dX1_recordStart_12 rfl rfl ?_
      refine v_iload_n (n := 14) k dX1_recordStart_13 rfl rfl ?_
      refine v_iload_n (n := 15) k dX1_recordStart_14 rfl rfl ?_
      refine v_rdVi (n := 18) k [0, 1] 0 (z_X1_recordSize (s := rst C p i) hP hp hg e2 (by omega)) miX1_recordSize ml_X1_112 (by decide) (by decide) rfl (by decide) rfl rfl rfl rfl (Nat.le_of_ble_eq_true rfl) ⟨Nat.zero_le _, Nat.zero_le _⟩ dX1_recordStart_15 rfl ?_
      refine v_iadd (n := 19) k dX1_recordStart_18 rfl ?_
      refine v_istore_n (n := 20) k dX1_recordStart_19 rfl (by decide) rfl rfl ?_
      refine v_iinc (n := 23) k dX1_recordStart_20 rfl (by decide) rfl rfl rfl ?_
      refine v_goto (t := 5) k dX1_recordStart_23 (by decide) ?_
      exact ih (i + 1) _ _ (by omega) (by omega) (by omega) (by show S + _ = _; rw [e2]; rfl)
set_option maxHeartbeats 1000000 in
set_option maxRecDepth 20000 in
theorem z_X1_recordStart {D : va_G} {cI cB cJ cZ : ClassId} {hd hc hk : Nat} {ko : Int} {pg lg : Nat} {wt al dn : Int} {C : Nat → Nat} {P N : Int} {p n : Nat} (hP : P = (p : Int)) (hp : p < pg) (hg : pg ≤ 255) (hN : N = (n : Int)) (hb : WB C p) (hn : n ≤ pb C p 1) (hC : ∀ j, C j < 256) : ∀ l, Rd l yX1_recordStart cX1_recordStart 5 (some .int) ({ frames := 2, cells := 0, slots := 0, locals := 44 }) D (TY cI cB cJ cZ) [.ref hd, .int (iI P), .int (iI N)] [oDisk hd hc hk ko pg lg wt al dn, aN cI hc 65280 C] (fun v => v = some (.int (iI ((rst C p n : Nat) : Int)))) := by
  intro l
  refine Rd_of (by decide) (Nat.le_of_ble_eq_true rfl) (fun x k hq => ?_)
  refine v_iconst (n := 1) k dX1_recordStart_0 rfl ?_
  refine v_istore_n (n := 2) k dX1_recordStart_1 rfl (by decide) rfl rfl ?_
  refine v_iconst (n := 3) k dX1_recordStart_2 rfl ?_
  refine v_istore (n := 5) k dX1_recordStart_3 rfl (by decide) rfl rfl ?_
  exact lp_X1_recordStart k hq hP hp hg hN hb hn hC (n + 1) 0 _ _ (by omega) (by omega) rfl rfl
set_option maxHeartbeats 1000000 in
set_option maxRecDepth 20000 in
theorem z_X1_recordHash {D : va_G} {cI cB cJ cZ : ClassId} {hd hc hk : Nat} {ko : Int} {pg lg : Nat} {wt al dn : Int} {C : Nat → Nat} {P S : Int} {p s : Nat} (hP : P = (p : Int)) (hp : p < pg) (hg : pg ≤ 255) (hS : S = (s : Int)) (hs : s + 2 + pb C p s ≤ 256) : ∀ l, Rd l yX1_recordHash cX1_recordHash 3 (some .int) ({ frames := 1, cells := 0, slots := 0, locals := 24 }) D (TY cI cB cJ cZ) [.ref hd, .int (iI P), .int (iI S)] [oDisk hd hc hk ko pg lg wt al dn, aN cI hc 65280 C] (fun v => v = some (.int (iI ((hsh C (p * 256 + s + 2) (pb C p s) : Nat) : Int)))) := by
  intro l
  refine Rd_of (by decide) (Nat.le_of_ble_eq_true rfl) (fun x k hq => ?_)
  refine v_aload_n (n := 1) k dX1_recordHash_0 rfl rfl ?_
  refine v_get (n := 4) k ciX1 0 0 (by decide) fl_X1_10 rfl rfl dX1_recordHash_1 rfl ?_
  refine v_iload_n (n := 5) k dX1_recordHash_4 rfl rfl ?_
  refine v_sipush (n := 8) k dX1_recordHash_5 (by decide) rfl ?_
  refine v_imul (n := 9) k dX1_recordHash_8 rfl ?_
  refine v_iload_n (n := 10) k dX1_recordHash_9 rfl rfl ?_
  refine v_iadd (n := 11) k dX1_recordHash_10 rfl ?_
  refine v_iconst (n := 12) k dX1_recordHash_11 rfl ?_
  refine v_iadd (n := 13) k dX1_recordHash_12 rfl ?_
  refine v_aload_n (n := 14) k dX1_recordHash_13 rfl rfl ?_
  refine v_iload_n (n := 15) k dX1_recordHash_14 rfl rfl ?_
  refine v_iload_n (n := 16) k dX1_recordHash_15 rfl rfl ?_
  refine v_rdVi (n := 19) k [0, 1] 0 (z_X1_at (p := p) (i := s) hP hS hp (by omega) hg) miX1_at ml_X1_70 (by decide) (by decide) rfl (by decide) rfl rfl rfl rfl (Nat.le_of_ble_eq_true rfl) ⟨Nat.zero_le _, Nat.zero_le _⟩ dX1_recordHash_16 rfl ?_
  refine v_rdSNi (n := 22) k [1] (z_X4_hashOf (s := p * 256 + s + 2) (z := pb C p s) (by omega) rfl (by omega) (by decide)) miX4_hashOf nl_X1_115 (by decide) (by decide) rfl (by decide) rfl rfl (Nat.le_of_ble_eq_true rfl) ⟨Nat.zero_le _, Nat.zero_le _⟩ dX1_recordHash_19 rfl ?_
  refine v_iretR k hq ?_ dX1_recordHash_22
  rfl
set_option maxHeartbeats 1000000 in
set_option maxRecDepth 20000 in
theorem lp_X1_allHashesAre {D : va_G} {cI cB cJ cZ : ClassId} {x : Kx} {hd hc hk : Nat} {ko : Int} {pg lg : Nat} {wt al dn : Int} {C : Nat → Nat} {P H : Int} {p h : Nat} (k : Kf x cX1_allHashesAre 6 yX1_allHashesAre.cls (some .boolean) D (TY cI cB cJ cZ) ({ frames := 2, cells := 0, slots := 0, locals := 46 })) (hq : isR x (fun v => v = some (.int (iI (bI (allH C p h)))))) (hP : P = (p : Int)) (hp : p < pg) (hg : pg ≤ 255) (hH : H = (h : Int)) (hh : h < 65536) (hb : WB C p) (hC : ∀ j, C j < 256) : ∀ (m : Nat) (i : Nat) (S I : Int), pb C p 1 < i + m → i ≤ pb C p 1 → I = (i : Int) → S = ((rst C p i : Nat) : Int) → (∀ r, r < i → rh C p r = h) → Vw x 6 (fun _ => True) D false 0 0 [oDisk hd hc hk ko pg lg wt al dn, aN cI hc 65280 C] 13 [(0, .ref hd), (1, .int (iI P)), (2, .int (iI H)), (3, .int (iI ((pb C p 1 : Nat) : Int))), (4, .int (iI S)), (5, .int (iI I))] [] := by
  intro m
  induction m with
  | zero => intro i S I hm hi e1 e2 e3; omega
  | succ m ih =>
    intro i S I hm hi e1 e2 e3
    have hpb : pb C p 1 < 256 := hC _
    refine v_iload (n := 15) k dX1_allHashesAre_13 rfl rfl ?_
    refine v_iload_n (n := 16) k dX1_allHashesAre_15 rfl rfl ?_
    refine v_icmp_ge (n := 19) (t := 50) k (⟨by omega, by omega⟩) (⟨by omega, by omega⟩) dX1_allHashesAre_16 (by decide) rfl (fun c_16 => ?_) (fun c_16 => ?_)
    · refine v_iconst (n := 51) k dX1_allHashesAre_50 rfl ?_
      refine v_zretR k (by decide) hq ?_ dX1_allHashesAre_51
      rw [bI_t (show allH C p h = true from all_range (fun r hr => by simpa using e3 r (by omega)))]
    · have hf := hb.fit (r := i) (by omega)
      have hz9 := rsz_ge C p (rst C p i)
      have h4 := rst_ge C p i
      have hl := hsh_lt C (p * 256 + rst C p i + 2) (pb C p (rst C p i))
      refine v_aload_n (n := 20) k dX1_allHashesAre_19 rfl rfl ?_
      refine v_iload_n (n := 21) k dX1_allHashesAre_20 rfl rfl ?_
      refine v_iload (n := 23) k dX1_allHashesAre_21 rfl rfl ?_
      refine v_rdVi (n := 26) k [0, 1] 0 (z_X1_recordHash (s := rst C p i) hP hp hg e2 (by omega)) miX1_recordHash ml_X1_119 (by decide) (by decide) rfl (by decide) rfl rfl rfl rfl (Nat.le_of_ble_eq_true rfl) ⟨Nat.zero_le _, Nat.zero_le _⟩ dX1_allHashesAre_23 rfl ?_
      refine v_iload_n (n := 27) k dX1_allHashesAre_26 rfl rfl ?_
      refine v_icmp_eq (n := 30) (t := 32) k (⟨by omega, by omega⟩) (⟨by omega, by omega⟩) dX1_allHashesAre_27 (by decide) rfl (fun c_27 => ?_) (fun c_27 => ?_)
      · refine v_iload (n := 34) k dX1_allHashesAre_32 rfl rfl ?_
        refine v_aload_n (n := 35) k dX1_allHashesAre_34 rfl rfl ?_
        refine v_iload_n (n := 36) k dX1_allHashesAre_35 rfl rfl ?_
        refine v_iload (n := 38) k dX1_allHashesAre_36 rfl rfl ?_
        refine v_rdVi (n := 41) k [0, 1] 0 (z_X1_recordSize (s := rst C p i) hP hp hg e2 (by omega)) miX1_recordSize ml_X1_112 (by decide) (by decide) rfl (by decide) rfl rfl rfl rfl (Nat.le_of_ble_eq_true rfl) ⟨Nat.zero_le _, Nat.zero_le _⟩ dX1_allHashesAre_38 rfl ?_
        refine v_iadd (n := 42) k dX1_allHashesAre_41 rfl ?_
        refine v_istore (n := 44) k dX1_allHashesAre_42 rfl (by decide) rfl rfl ?_
        refine v_iinc (n := 47) k dX1_allHashesAre_44 rfl (by decide) rfl rfl rfl ?_
        refine v_goto (t := 13) k dX1_allHashesAre_47 (by decide) ?_
        exact ih (i + 1) _ _ (by omega) (by omega) (by omega) (by show S + _ = _; rw [e2]; rfl) (fun r hr => by
          rcases Nat.lt_or_ge r i with q | q
          · exact e3 r q
          · have : r = i := by omega
            rw [this]
            unfold rh
            omega)
      · refine v_iconst (n := 31) k dX1_allHashesAre_30 rfl ?_
        refine v_zretR k (by decide) hq ?_ dX1_allHashesAre_31
        rw [bI_f (show allH C p h = false from all_range_f (i := i) (by omega) (by
          have : rh C p i ≠ h := by unfold rh; omega
          simpa using this))]
set_option maxHeartbeats 1000000 in
set_option maxRecDepth 20000 in
theorem z_X1_allHashesAre {D : va_G} {cI cB cJ cZ : ClassId} {hd hc hk : Nat} {ko : Int} {pg lg : Nat} {wt al dn : Int} {C : Nat → Nat} {P H : Int} {p h : Nat} (hP : P = (p : Int)) (hp : p < pg) (hg : pg ≤ 255) (hH : H = (h : Int)) (hh : h < 65536) (hb : WB C p) (hC : ∀ j, C j < 256) : ∀ l, Rd l yX1_allHashesAre cX1_allHashesAre 6 (some .boolean) ({ frames := 2, cells := 0, slots := 0, locals := 46 }) D (TY cI cB cJ cZ) [.ref hd, .int (iI P), .int (iI H)] [oDisk hd hc hk ko pg lg wt al dn, aN cI hc 65280 C] (fun v => v = some (.int (iI (bI (allH C p h))))) := by
  intro l
  refine Rd_of (by decide) (Nat.le_of_ble_eq_true rfl) (fun x k hq => ?_)
  refine v_aload_n (n := 1) k dX1_allHashesAre_0 rfl rfl ?_
  refine v_iload_n (n := 2) k dX1_allHashesAre_1 rfl rfl ?_
  refine v_iconst (n := 3) k dX1_allHashesAre_2 rfl ?_
  refine v_rdVi (n := 6) k [0, 1] 0 (z_X1_at (p := p) (i := 1) hP rfl hp (by omega) hg) miX1_at ml_X1_70 (by decide) (by decide) rfl (by decide) rfl rfl rfl rfl (Nat.le_of_ble_eq_true rfl) ⟨Nat.zero_le _, Nat.zero_le _⟩ dX1_allHashesAre_3 rfl ?_
  refine v_istore_n (n := 7) k dX1_allHashesAre_6 rfl (by decide) rfl rfl ?_
  refine v_iconst (n := 8) k dX1_allHashesAre_7 rfl ?_
  refine v_istore (n := 10) k dX1_allHashesAre_8 rfl (by decide) rfl rfl ?_
  refine v_iconst (n := 11) k dX1_allHashesAre_10 rfl ?_
  refine v_istore (n := 13) k dX1_allHashesAre_11 rfl (by decide) rfl rfl ?_
  exact lp_X1_allHashesAre k hq hP hp hg hH hh hb hC (pb C p 1 + 1) 0 _ _ (by omega) (by omega) rfl rfl (fun r hr => absurd hr (by omega))
set_option maxHeartbeats 1000000 in
set_option maxRecDepth 20000 in
theorem lp_X1_hasKey {D : va_G} {cI cB cJ cZ : ClassId} {x : Kx} {hd hc hk : Nat} {ko : Int} {pg lg : Nat} {wt al dn : Int} {C : Nat → Nat} {ht hb : Nat} {sz : Int} {T : Nat → Nat} {P S Z : Int} {p s z : Nat} (k : Kf x cX1_hasKey 6 yX1_hasKey.cls (some .boolean) D (TY cI cB cJ cZ) ({ frames := 1, cells := 0, slots := 0, locals := 22 })) (hq : isR x (fun v => v = some (.int (iI (bI (keq C p s T z)))))) (hP : P = (p : Int)) (hp : p < pg) (hg : pg ≤ 255) (hS : S = (s : Int)) (hZ : Z = (z : Int)) (hs : s + z ≤ 256) (hz : z ≤ 48) (hC : ∀ j, C j < 256) (hT : ∀ j, T j < 256) : ∀ (m : Nat) (i : Nat) (I : Int), z < i + m → i ≤ z → I = (i : Int) → (∀ r, r < i → pb C p (s + r) = T r) → Vw x 6 (fun _ => True) D false 0 0 [oDisk hd hc hk ko pg lg wt al dn, aN cI hc 65280 C, oTape ht hb sz, aN cI hb 48 T] 3 [(0, .ref hd), (1, .int (iI P)), (2, .int (iI S)), (3, .ref ht), (4, .int (iI Z)), (5, .int (iI I))] [] := by
  intro m
  induction m with
  | zero => intro i I hm hi e1 e3; omega
  | succ m ih =>
    intro i I hm hi e1 e3
    refine v_iload (n := 5) k dX1_hasKey_3 rfl rfl ?_
    refine v_iload (n := 7) k dX1_hasKey_5 rfl rfl ?_
    refine v_icmp_ge (n := 10) (t := 36) k (⟨by omega, by omega⟩) (⟨by omega, by omega⟩) dX1_hasKey_7 (by decide) rfl (fun c_7 => ?_) (fun c_7 => ?_)
    · refine v_iconst (n := 37) k dX1_hasKey_36 rfl ?_
      refine v_zretR k (by decide) hq ?_ dX1_hasKey_37
      rw [bI_t (show keq C p s T z = true from all_range (fun r hr => by simpa using e3 r (by omega)))]
    · have hc1 := hC (p * 256 + (s + i))
      have hc2 : pb C p (s + i) < 256 := hc1
      have hc3 := hT i
      refine v_aload_n (n := 11) k dX1_hasKey_10 rfl rfl ?_
      refine v_iload_n (n := 12) k dX1_hasKey_11 rfl rfl ?_
      refine v_iload_n (n := 13) k dX1_hasKey_12 rfl rfl ?_
      refine v_iload (n := 15) k dX1_hasKey_13 rfl rfl ?_
      refine v_iadd (n := 16) k dX1_hasKey_15 rfl ?_
      refine v_rdVi (n := 19) k [0, 1] 0 (z_X1_at (p := p) (i := s + i) hP (by omega) hp (by omega) hg) miX1_at ml_X1_70 (by decide) (by decide) rfl (by decide) rfl rfl rfl rfl (Nat.le_of_ble_eq_true rfl) ⟨Nat.zero_le _, Nat.zero_le _⟩ dX1_hasKey_16 rfl ?_
      refine v_aload_n (n := 20) k dX1_hasKey_19 rfl rfl ?_
      refine v_iload (n := 22) k dX1_hasKey_20 rfl rfl ?_
      refine v_rdVi (n := 25) k [2, 3] 2 (z_X3_byteAt (i := i) e1 (by omega)) miX3_byteAt ml_X1_126 (by decide) (by decide) rfl (by decide) rfl rfl rfl rfl (Nat.le_of_ble_eq_true rfl) ⟨Nat.zero_le _, Nat.zero_le _⟩ dX1_hasKey_22 rfl ?_
      refine v_icmp_eq (n := 28) (t := 30) k (⟨by omega, by omega⟩) (⟨by omega, by omega⟩) dX1_hasKey_25 (by decide) rfl (fun c_25 => ?_) (fun c_25 => ?_)
      · refine v_iinc (n := 33) k dX1_hasKey_30 rfl (by decide) rfl rfl rfl ?_
        refine v_goto (t := 3) k dX1_hasKey_33 (by decide) ?_
        exact ih (i + 1) _ (by omega) (by omega) (by omega) (fun r hr => by
          rcases Nat.lt_or_ge r i with q | q
          · exact e3 r q
          · have : r = i := by omega
            rw [this]
            omega)
      · refine v_iconst (n := 29) k dX1_hasKey_28 rfl ?_
        refine v_zretR k (by decide) hq ?_ dX1_hasKey_29
        rw [bI_f (show keq C p s T z = false from all_range_f (i := i) (by omega) (by
          have : pb C p (s + i) ≠ T i := by omega
          simpa using this))]
set_option maxHeartbeats 1000000 in
set_option maxRecDepth 20000 in
theorem z_X1_hasKey {D : va_G} {cI cB cJ cZ : ClassId} {hd hc hk : Nat} {ko : Int} {pg lg : Nat} {wt al dn : Int} {C : Nat → Nat} {ht hb : Nat} {sz : Int} {T : Nat → Nat} {P S Z : Int} {p s z : Nat} (hP : P = (p : Int)) (hp : p < pg) (hg : pg ≤ 255) (hS : S = (s : Int)) (hZ : Z = (z : Int)) (hs : s + z ≤ 256) (hz : z ≤ 48) (hC : ∀ j, C j < 256) (hT : ∀ j, T j < 256) : ∀ l, Rd l yX1_hasKey cX1_hasKey 6 (some .boolean) ({ frames := 1, cells := 0, slots := 0, locals := 22 }) D (TY cI cB cJ cZ) [.ref hd, .int (iI P), .int (iI S), .ref ht, .int (iI Z)] [oDisk hd hc hk ko pg lg wt al dn, aN cI hc 65280 C, oTape ht hb sz, aN cI hb 48 T] (fun v => v = some (.int (iI (bI (keq C p s T z))))) := by
  intro l
  refine Rd_of (by decide) (Nat.le_of_ble_eq_true rfl) (fun x k hq => ?_)
  refine v_iconst (n := 1) k dX1_hasKey_0 rfl ?_
  refine v_istore (n := 3) k dX1_hasKey_1 rfl (by decide) rfl rfl ?_
  exact lp_X1_hasKey k hq hP hp hg hS hZ hs hz hC hT (z + 1) 0 _ (by omega) (by omega) rfl (fun r hr => absurd hr (by omega))
set_option maxHeartbeats 1000000 in
set_option maxRecDepth 20000 in
theorem lp_X1_find {D : va_G} {cI cB cJ cZ : ClassId} {x : Kx} {hd hc hk : Nat} {ko : Int} {pg lg : Nat} {wt al dn : Int} {C : Nat → Nat} {ht hb : Nat} {sz : Int} {T : Nat → Nat} {P Z : Int} {p z : Nat} (k : Kf x cX1_find 7 yX1_find.cls (some .int) D (TY cI cB cJ cZ) ({ frames := 2, cells := 0, slots := 0, locals := 47 })) (hq : isR x (fun v => v = some (.int (iI (fndI C p T z))))) (hP : P = (p : Int)) (hp : p < pg) (hg : pg ≤ 255) (hZ : Z = (z : Int)) (hz : z ≤ 48) (hb9 : WB C p) (hC : ∀ j, C j < 256) (hT : ∀ j, T j < 256) : ∀ (m : Nat) (i : Nat) (S I : Int), pb C p 1 < i + m → i ≤ pb C p 1 → I = (i : Int) → S = ((rst C p i : Nat) : Int) → (∀ r, r < i → isK C p T z r = false) → Vw x 7 (fun _ => True) D false 0 0 [oDisk hd hc hk ko pg lg wt al dn, aN cI hc 65280 C, oTape ht hb sz, aN cI hb 48 T] 14 [(0, .ref hd), (1, .int (iI P)), (2, .ref ht), (3, .int (iI Z)), (4, .int (iI ((pb C p 1 : Nat) : Int))), (5, .int (iI S)), (6, .int (iI I))] [] := by
  intro m
  induction m with
  | zero => intro i S I hm hi e1 e2 e3; omega
  | succ m ih =>
    intro i S I hm hi e1 e2 e3
    have hpb : pb C p 1 < 256 := hC _
    refine v_iload (n := 16) k dX1_find_14 rfl rfl ?_
    refine v_iload (n := 18) k dX1_find_16 rfl rfl ?_
    refine v_icmp_ge (n := 21) (t := 67) k (⟨by omega, by omega⟩) (⟨by omega, by omega⟩) dX1_find_18 (by decide) rfl (fun c_18 => ?_) (fun c_18 => ?_)
    · refine v_iconst (n := 68) k dX1_find_67 rfl ?_
      refine v_iretR k hq ?_ dX1_find_68
      rw [fndI, show fnd C p T z = none from find_range_n (fun r hr => e3 r (by omega))]
    · have hf := hb9.fit (r := i) (by omega)
      have hz9 := rsz_ge C p (rst C p i)
      have h4 := rst_ge C p i
      have hc9 : pb C p (rst C p i) < 256 := hC _
      refine v_aload_n (n := 22) k dX1_find_21 rfl rfl ?_
      refine v_iload_n (n := 23) k dX1_find_22 rfl rfl ?_
      refine v_iload (n := 25) k dX1_find_23 rfl rfl ?_
      refine v_rdVi (n := 28) k [0, 1] 0 (z_X1_at (p := p) (i := rst C p i) hP e2 hp (by omega) hg) miX1_at ml_X1_70 (by decide) (by decide) rfl (by decide) rfl rfl rfl rfl (Nat.le_of_ble_eq_true rfl) ⟨Nat.zero_le _, Nat.zero_le _⟩ dX1_find_25 rfl ?_
      refine v_iload_n (n := 29) k dX1_find_28 rfl rfl ?_
      refine v_icmp_ne (n := 32) (t := 49) k (⟨by omega, by omega⟩) (⟨by omega, by omega⟩) dX1_find_29 (by decide) rfl (fun c_29 => ?_) (fun c_29 => ?_)
      · have hno : isK C p T z i = false := by
          unfold isK
          first
          | (have : pb C p (rst C p i) ≠ z := by omega
             simp [this]; done)
          | (have : keq C p (rst C p i + 2) T z = false := by
              cases hq9 : keq C p (rst C p i + 2) T z with
              | false => rfl
              | true => rw [bI_t hq9] at c_43; omega
             rw [this]; simp)
        refine v_iload (n := 51) k dX1_find_49 rfl rfl ?_
        refine v_aload_n (n := 52) k dX1_find_51 rfl rfl ?_
        refine v_iload_n (n := 53) k dX1_find_52 rfl rfl ?_
        refine v_iload (n := 55) k dX1_find_53 rfl rfl ?_
        refine v_rdVi (n := 58) k [0, 1] 0 (z_X1_recordSize (s := rst C p i) hP hp hg e2 (by omega)) miX1_recordSize ml_X1_112 (by decide) (by decide) rfl (by decide) rfl rfl rfl rfl (Nat.le_of_ble_eq_true rfl) ⟨Nat.zero_le _, Nat.zero_le _⟩ dX1_find_55 rfl ?_
        refine v_iadd (n := 59) k dX1_find_58 rfl ?_
        refine v_istore (n := 61) k dX1_find_59 rfl (by decide) rfl rfl ?_
        refine v_iinc (n := 64) k dX1_find_61 rfl (by decide) rfl rfl rfl ?_
        refine v_goto (t := 14) k dX1_find_64 (by decide) ?_
        exact ih (i + 1) _ _ (by omega) (by omega) (by omega) (by show S + _ = _; rw [e2]; rfl) (fun r hr => by
          rcases Nat.lt_or_ge r i with q | q
          · exact e3 r q
          · have : r = i := by omega
            rw [this]
            exact hno)
      · refine v_aload_n (n := 33) k dX1_find_32 rfl rfl ?_
        refine v_iload_n (n := 34) k dX1_find_33 rfl rfl ?_
        refine v_iload (n := 36) k dX1_find_34 rfl rfl ?_
        refine v_iconst (n := 37) k dX1_find_36 rfl ?_
        refine v_iadd (n := 38) k dX1_find_37 rfl ?_
        refine v_aload_n (n := 39) k dX1_find_38 rfl rfl ?_
        refine v_iload_n (n := 40) k dX1_find_39 rfl rfl ?_
        refine v_rdVi (n := 43) k [0, 1, 2, 3] 0 (z_X1_hasKey (s := rst C p i + 2) (z := z) hP hp hg (by omega) hZ (by omega) hz hC hT) miX1_hasKey ml_X1_122 (by decide) (by decide) rfl (by decide) rfl rfl rfl rfl (Nat.le_of_ble_eq_true rfl) ⟨Nat.zero_le _, Nat.zero_le _⟩ dX1_find_40 rfl ?_
        refine v_if_eq (n := 46) (t := 49) k (⟨by cases keq C p (rst C p i + 2) T z <;> decide, by cases keq C p (rst C p i + 2) T z <;> decide⟩) dX1_find_43 (by decide) rfl (fun c_43 => ?_) (fun c_43 => ?_)
        · have hno : isK C p T z i = false := by
            unfold isK
            first
            | (have : pb C p (rst C p i) ≠ z := by omega
               simp [this]; done)
            | (have : keq C p (rst C p i + 2) T z = false := by
                cases hq9 : keq C p (rst C p i + 2) T z with
                | false => rfl
                | true => rw [bI_t hq9] at c_43; omega
               rw [this]; simp)
          refine v_iload (n := 51) k dX1_find_49 rfl rfl ?_
          refine v_aload_n (n := 52) k dX1_find_51 rfl rfl ?_
          refine v_iload_n (n := 53) k dX1_find_52 rfl rfl ?_
          refine v_iload (n := 55) k dX1_find_53 rfl rfl ?_
          refine v_rdVi (n := 58) k [0, 1] 0 (z_X1_recordSize (s := rst C p i) hP hp hg e2 (by omega)) miX1_recordSize ml_X1_112 (by decide) (by decide) rfl (by decide) rfl rfl rfl rfl (Nat.le_of_ble_eq_true rfl) ⟨Nat.zero_le _, Nat.zero_le _⟩ dX1_find_55 rfl ?_
          refine v_iadd (n := 59) k dX1_find_58 rfl ?_
          refine v_istore (n := 61) k dX1_find_59 rfl (by decide) rfl rfl ?_
          refine v_iinc (n := 64) k dX1_find_61 rfl (by decide) rfl rfl rfl ?_
          refine v_goto (t := 14) k dX1_find_64 (by decide) ?_
          exact ih (i + 1) _ _ (by omega) (by omega) (by omega) (by show S + _ = _; rw [e2]; rfl) (fun r hr => by
            rcases Nat.lt_or_ge r i with q | q
            · exact e3 r q
            · have : r = i := by omega
              rw [this]
              exact hno)
        · refine v_iload (n := 48) k dX1_find_46 rfl rfl ?_
          refine v_iretR k hq ?_ dX1_find_48
          have hy : isK C p T z i = true := by
            have h1 : keq C p (rst C p i + 2) T z = true := by
              cases hq9 : keq C p (rst C p i + 2) T z with
              | true => rfl
              | false => rw [bI_f hq9] at c_43; omega
            have h2 : pb C p (rst C p i) = z := by omega
            unfold isK
            rw [h1, h2]
            simp
          rw [fndI, show fnd C p T z = some i from find_range (by omega) hy e3, e2]
set_option maxHeartbeats 1000000 in
set_option maxRecDepth 20000 in
theorem z_X1_find {D : va_G} {cI cB cJ cZ : ClassId} {hd hc hk : Nat} {ko : Int} {pg lg : Nat} {wt al dn : Int} {C : Nat → Nat} {ht hb : Nat} {sz : Int} {T : Nat → Nat} {P Z : Int} {p z : Nat} (hP : P = (p : Int)) (hp : p < pg) (hg : pg ≤ 255) (hZ : Z = (z : Int)) (hz : z ≤ 48) (hb9 : WB C p) (hC : ∀ j, C j < 256) (hT : ∀ j, T j < 256) : ∀ l, Rd l yX1_find cX1_find 7 (some .int) ({ frames := 2, cells := 0, slots := 0, locals := 47 }) D (TY cI cB cJ cZ) [.ref hd, .int (iI P), .ref ht, .int (iI Z)] [oDisk hd hc hk ko pg lg wt al dn, aN cI hc 65280 C, oTape ht hb sz, aN cI hb 48 T] (fun v => v = some (.int (iI (fndI C p T z)))) := by
  intro l
  refine Rd_of (by decide) (Nat.le_of_ble_eq_true rfl) (fun x k hq => ?_)
  refine v_aload_n (n := 1) k dX1_find_0 rfl rfl ?_
  refine v_iload_n (n := 2) k dX1_find_1 rfl rfl ?_
  refine v_iconst (n := 3) k dX1_find_2 rfl ?_
  refine v_rdVi (n := 6) k [0, 1] 0 (z_X1_at (p := p) (i := 1) hP rfl hp (by omega) hg) miX1_at ml_X1_70 (by decide) (by decide) rfl (by decide) rfl rfl rfl rfl (Nat.le_of_ble_eq_true rfl) ⟨Nat.zero_le _, Nat.zero_le _⟩ dX1_find_3 rfl ?_
  refine v_istore (n := 8) k dX1_find_6 rfl (by decide) rfl rfl ?_
  refine v_iconst (n := 9) k dX1_find_8 rfl ?_
  refine v_istore (n := 11) k dX1_find_9 rfl (by decide) rfl rfl ?_
  refine v_iconst (n := 12) k dX1_find_11 rfl ?_
  refine v_istore (n := 14) k dX1_find_12 rfl (by decide) rfl rfl ?_
  exact lp_X1_find k hq hP hp hg hZ hz hb9 hC hT (pb C p 1 + 1) 0 _ _ (by omega) (by omega) rfl rfl (fun r hr => absurd hr (by omega))
