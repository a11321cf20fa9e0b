/-- the reference's records: sizes and packed bytes -/
abbrev RQ : Type := (Nat → Nat) × (Nat → Nat) × (Nat → Int64) × (Nat → Int64)
abbrev oM (h : Nat) (r : Nat → Nat) (th : Int) (pg lg : Nat) (wt al dn : Int) (dp dm tp an ch : Nat) : Nat × va_E := (h, .inr (5, [.int (iI th), .ref (r 0), .int (iI (pg : Int)), .int (iI (lg : Int)), .int (iI wt), .int (iI al), .int (iI dn), .int (iI (dp : Int)), .int (iI (dm : Int)), .ref (r 1), .ref (r 2), .ref (r 3), .ref (r 4), .ref (r 5), .ref (r 6), .ref (r 7), .ref (r 8), .ref (r 9), .ref (r 10), .ref (r 11), .int (iI (tp : Int)), .ref (r 12), .int (iI (an : Int)), .ref (r 13), .ref (r 14), .int (iI (ch : Int))]))
/-- byte j of the key (the value) of record x -/
def kb (q : RQ) (x j : Nat) : Nat := by8 (q.2.2.1 (2 * x + j / 8)) (j % 8)
def vb (q : RQ) (x j : Nat) : Nat := by8 (q.2.2.2 (4 * x + j / 8)) (j % 8)
theorem kb_lt (q : RQ) (x j : Nat) : kb q x j < 256 := by8_lt _ _
theorem vb_lt (q : RQ) (x j : Nat) : vb q x j < 256 := by8_lt _ _
def QB (q : RQ) : Prop := ∀ y, q.1 y ≤ 16 ∧ q.2.1 y ≤ 32
/-- the rows agree on the disk's pages -/
def AGP (pg : Nat) (Cm C : Nat → Nat) : Prop := (∀ j, Cm j < 256) ∧ ∀ j, j < pg * 256 → Cm j = C j
theorem AGP.pb {pg : Nat} {Cm C : Nat → Nat} (h : AGP pg Cm C) {p i : Nat} (hp : p < pg) (hi : i < 256) : pb Cm p i = pb C p i := h.2 _ (by omega)
def dirM (Dr : Nat → Nat) (n p : Nat) : Bool := (List.range n).any (fun k => Dr k == p)
def kyB (q : RQ) (T : Nat → Nat) (z x : Nat) : Bool := q.1 x == z && (List.range z).all (fun j => kb q x j == T j)
def fdM (q : RQ) (T : Nat → Nat) (Mn : Nat → Nat) (p z : Nat) : Option Nat := (List.range (Mn p)).find? (fun r => kyB q T z (90 * p + r))
def fdI (o : Option Nat) : Int := match o with
  | some r => (r : Int)
  | none => -1
def hxM (q : RQ) (x : Nat) : Nat := hsh (kb q x) 0 (q.1 x)
def alM (q : RQ) (Mn : Nat → Nat) (p h : Nat) : Bool := (List.range (Mn p)).all (fun r => hxM q (90 * p + r) == h)
def btM (q : RQ) (p : Nat) : Nat → Nat
  | 0 => 0
  | n + 1 => btM q p n + (2 + q.1 (90 * p + n) + q.2.1 (90 * p + n))
theorem btM_le {q : RQ} (h : QB q) (p : Nat) : ∀ n, btM q p n ≤ 50 * n := by
  intro n
  induction n with
  | zero => exact Nat.le_refl _
  | succ n ih =>
    have := h (90 * p + n)
    show btM q p n + (2 + q.1 (90 * p + n) + q.2.1 (90 * p + n)) ≤ _
    omega
theorem any_range_n {n : Nat} {P : Nat → Bool} (h : ∀ r, r < n → P r = false) : (List.range n).any P = false := by
  rw [List.any_eq_false]
  intro x hx
  rw [h x (List.mem_range.mp hx)]
  decide
theorem all_range_n {n i : Nat} {P : Nat → Bool} (hi : i < n) (h : P i = false) : (List.range n).all P = false := by
  rw [List.all_eq_false]
  exact ⟨i, List.mem_range.mpr hi, by rw [h]; decide⟩
theorem bI_in (b : Bool) : in32 (bI b) := by cases b <;> exact ⟨by decide, by decide⟩
set_option maxHeartbeats 1000000 in
set_option maxRecDepth 20000 in
theorem z_X5_at {D : va_G} {cI cB cJ cZ : ClassId} {hm : Nat} {r : Nat → Nat} {th : Int} {pg lg : Nat} {wt al dn : Int} {dp dm tp an ch : Nat} {Cm : Nat → Nat} {P I : Int} {p i : Nat} {C : Nat → Nat} (hP : P = (p : Int)) (hI : I = (i : Int)) (hp : p < pg) (hi : i < 256) (hg : pg ≤ 255) (hA : AGP pg Cm C) : ∀ l, Rd l yX5_at cX5_at 3 (some .int) ({ frames := 0, cells := 0, slots := 0, locals := 0 }) D (TY cI cB cJ cZ) [.ref hm, .int (iI P), .int (iI I)] [oM hm r th pg lg wt al dn dp dm tp an ch, aB cB (r 0) 65536 Cm] (fun v => v = some (.int (iI (((pb C p i : Nat) : Int))))) := by
  intro l
  refine Rd_of (by decide) (Nat.le_of_ble_eq_true rfl) (fun x k hq => ?_)
  refine v_aload_n (n := 1) k dX5_at_0 rfl rfl ?_
  refine v_get (n := 4) k ciX5 0 1 (by decide) fl_X5_14 rfl rfl dX5_at_1 rfl ?_
  refine v_sipush (n := 7) k dX5_at_4 (by decide) rfl ?_
  refine v_iload_n (n := 8) k dX5_at_7 rfl rfl ?_
  refine v_imul (n := 9) k dX5_at_8 rfl ?_
  refine v_iload_n (n := 10) k dX5_at_9 rfl rfl ?_
  refine v_iadd (n := 11) k dX5_at_10 rfl ?_
  refine v_baldN (n := 12) k 1 1 (p * 256 + i) rfl rfl (by omega) (by omega) (by omega) dX5_at_11 rfl ?_
  refine v_sipush (n := 15) k dX5_at_12 (by decide) rfl ?_
  refine v_iand (n := 16) k (((pb C p i : Nat) : Int)) (by rw [← hA.pb hp hi]; exact sb_and _ (hA.1 _)) dX5_at_15 rfl ?_
  refine v_iretR k hq ?_ dX5_at_16
  rfl
set_option maxHeartbeats 1000000 in
set_option maxRecDepth 20000 in
theorem z_X5_keyByte {D : va_G} {cI cB cJ cZ : ClassId} {hm : Nat} {r : Nat → Nat} {th : Int} {pg lg : Nat} {wt al dn : Int} {dp dm tp an ch : Nat} {q : RQ} {X J : Int} {u j : Nat} (hX : X = (u : Int)) (hJ : J = (j : Int)) (hx : u < 23040) (hj : j < 16) : ∀ l, Rd l yX5_keyByte cX5_keyByte 3 (some .int) ({ frames := 0, cells := 0, slots := 0, locals := 0 }) D (TY cI cB cJ cZ) [.ref hm, .int (iI X), .int (iI J)] [oM hm r th pg lg wt al dn dp dm tp an ch, aL cJ (r 9) 46080 q.2.2.1] (fun v => v = some (.int (iI (((kb q u j : Nat) : Int))))) := by
  intro l
  refine Rd_of (by decide) (Nat.le_of_ble_eq_true rfl) (fun x k hq => ?_)
  refine v_aload_n (n := 1) k dX5_keyByte_0 rfl rfl ?_
  refine v_get (n := 4) k ciX5 0 17 (by decide) fl_X5_45 rfl rfl dX5_keyByte_1 rfl ?_
  refine v_iconst (n := 5) k dX5_keyByte_4 rfl ?_
  refine v_iload_n (n := 6) k dX5_keyByte_5 rfl rfl ?_
  refine v_imul (n := 7) k dX5_keyByte_6 rfl ?_
  refine v_iload_n (n := 8) k dX5_keyByte_7 rfl rfl ?_
  refine v_bipush (n := 10) k dX5_keyByte_8 (by decide) rfl ?_
  refine v_idiv (n := 11) k (((j / 8 : Nat) : Int)) (ax_ne0 (by omega) (by omega)) (ax_div (by omega) rfl (by omega) (by omega) (by omega)) dX5_keyByte_10 rfl ?_
  refine v_iadd (n := 12) k dX5_keyByte_11 rfl ?_
  refine v_laldN (n := 13) k 1 2 (2 * u + j / 8) rfl rfl (by omega) (by omega) (by omega) dX5_keyByte_12 rfl ?_
  refine v_bipush (n := 15) k dX5_keyByte_13 (by decide) rfl ?_
  refine v_iload_n (n := 16) k dX5_keyByte_15 rfl rfl ?_
  refine v_bipush (n := 18) k dX5_keyByte_16 (by decide) rfl ?_
  refine v_irem (n := 19) k (((j % 8 : Nat) : Int)) (ax_ne0 (by omega) (by omega)) (ax_rem (by omega) rfl (by omega) (by omega) (by omega)) dX5_keyByte_18 rfl ?_
  refine v_imul (n := 20) k dX5_keyByte_19 rfl ?_
  refine v_lshr (n := 21) k dX5_keyByte_20 rfl ?_
  refine v_l2i (n := 22) k dX5_keyByte_21 rfl ?_
  refine v_sipush (n := 25) k dX5_keyByte_22 (by decide) rfl ?_
  refine v_iand (n := 26) k (((kb q u j : Nat) : Int)) (by
  have e8 : (8 : Int) * ((j % 8 : Nat) : Int) = ((8 * (j % 8) : Nat) : Int) := by omega
  rw [e8]
  exact by8_shr (q.2.2.1 (2 * u + j / 8)) (by omega)) dX5_keyByte_25 rfl ?_
  refine v_iretR k hq ?_ dX5_keyByte_26
  rfl
set_option maxHeartbeats 1000000 in
set_option maxRecDepth 20000 in
theorem z_X5_valueByte {D : va_G} {cI cB cJ cZ : ClassId} {hm : Nat} {r : Nat → Nat} {th : Int} {pg lg : Nat} {wt al dn : Int} {dp dm tp an ch : Nat} {q : RQ} {X J : Int} {u j : Nat} (hX : X = (u : Int)) (hJ : J = (j : Int)) (hx : u < 23040) (hj : j < 32) : ∀ l, Rd l yX5_valueByte cX5_valueByte 3 (some .int) ({ frames := 0, cells := 0, slots := 0, locals := 0 }) D (TY cI cB cJ cZ) [.ref hm, .int (iI X), .int (iI J)] [oM hm r th pg lg wt al dn dp dm tp an ch, aL cJ (r 10) 92160 q.2.2.2] (fun v => v = some (.int (iI (((vb q u j : Nat) : Int))))) := by
  intro l
  refine Rd_of (by decide) (Nat.le_of_ble_eq_true rfl) (fun x k hq => ?_)
  refine v_aload_n (n := 1) k dX5_valueByte_0 rfl rfl ?_
  refine v_get (n := 4) k ciX5 0 18 (by decide) fl_X5_50 rfl rfl dX5_valueByte_1 rfl ?_
  refine v_iconst (n := 5) k dX5_valueByte_4 rfl ?_
  refine v_iload_n (n := 6) k dX5_valueByte_5 rfl rfl ?_
  refine v_imul (n := 7) k dX5_valueByte_6 rfl ?_
  refine v_iload_n (n := 8) k dX5_valueByte_7 rfl rfl ?_
  refine v_bipush (n := 10) k dX5_valueByte_8 (by decide) rfl ?_
  refine v_idiv (n := 11) k (((j / 8 : Nat) : Int)) (ax_ne0 (by omega) (by omega)) (ax_div (by omega) rfl (by omega) (by omega) (by omega)) dX5_valueByte_10 rfl ?_
  refine v_iadd (n := 12) k dX5_valueByte_11 rfl ?_
  refine v_laldN (n := 13) k 1 2 (4 * u + j / 8) rfl rfl (by omega) (by omega) (by omega) dX5_valueByte_12 rfl ?_
  refine v_bipush (n := 15) k dX5_valueByte_13 (by decide) rfl ?_
  refine v_iload_n (n := 16) k dX5_valueByte_15 rfl rfl ?_
  refine v_bipush (n := 18) k dX5_valueByte_16 (by decide) rfl ?_
  refine v_irem (n := 19) k (((j % 8 : Nat) : Int)) (ax_ne0 (by omega) (by omega)) (ax_rem (by omega) rfl (by omega) (by omega) (by omega)) dX5_valueByte_18 rfl ?_
  refine v_imul (n := 20) k dX5_valueByte_19 rfl ?_
  refine v_lshr (n := 21) k dX5_valueByte_20 rfl ?_
  refine v_l2i (n := 22) k dX5_valueByte_21 rfl ?_
  refine v_sipush (n := 25) k dX5_valueByte_22 (by decide) rfl ?_
  refine v_iand (n := 26) k (((vb q u j : Nat) : Int)) (by
  have e8 : (8 : Int) * ((j % 8 : Nat) : Int) = ((8 * (j % 8) : Nat) : Int) := by omega
  rw [e8]
  exact by8_shr (q.2.2.2 (4 * u + j / 8)) (by omega)) dX5_valueByte_25 rfl ?_
  refine v_iretR k hq ?_ dX5_valueByte_26
  rfl
set_option maxHeartbeats 1000000 in
set_option maxRecDepth 20000 in
theorem z_X5_step {D : va_G} {cI cB cJ cZ : ClassId} {H B : Int} {h b : Nat} (hH : H = (h : Int)) (hB : B = (b : Int)) (hh : h < 65536) (hb : b < 256) : ∀ l, Rd l yX5_step cX5_step 3 (some .int) ({ frames := 0, cells := 0, slots := 0, locals := 0 }) D (TY cI cB cJ cZ) [.int (iI H), .int (iI B)] [] (fun v => v = some (.int (iI ((hst h b : Nat) : Int)))) := by
  intro l
  refine Rd_of (by decide) (Nat.le_of_ble_eq_true rfl) (fun x k hq => ?_)
  have hx := xor_lt16 hh (show b < 65536 by omega)
  refine v_iload_n (n := 1) k dX5_step_0 rfl rfl ?_
  refine v_iload_n (n := 2) k dX5_step_1 rfl rfl ?_
  refine v_ixor (n := 3) k (((h ^^^ b : Nat) : Int)) (by rw [hH, hB]; exact ax_xor h b) dX5_step_2 rfl ?_
  refine v_ldc (n := 5) k co_X5_109 dX5_step_3 rfl ?_
  refine v_imul (n := 6) k dX5_step_5 rfl ?_
  refine v_ldc (n := 8) k co_X5_110 dX5_step_6 rfl ?_
  refine v_iand (n := 9) k ((((h ^^^ b) * 40503 % 65536 : Nat) : Int)) (ax_m16 (by rw [Int.natCast_mul]; rfl)) dX5_step_8 rfl ?_
  refine v_istore_n (n := 10) k dX5_step_9 rfl (by decide) rfl rfl ?_
  refine v_iload_n (n := 11) k dX5_step_10 rfl rfl ?_
  refine v_iload_n (n := 12) k dX5_step_11 rfl rfl ?_
  refine v_iconst (n := 13) k dX5_step_12 rfl ?_
  refine v_ishr (n := 14) k ((((h ^^^ b) * 40503 % 65536 / 32 : Nat) : Int)) (ax_shr (d := 5) rfl rfl (by decide) (by omega)) dX5_step_13 rfl ?_
  refine v_ixor (n := 15) k (((hst h b : Nat) : Int)) (ax_xor _ _) dX5_step_14 rfl ?_
  refine v_iretR k hq ?_ dX5_step_15
  rfl
set_option maxHeartbeats 1000000 in
set_option maxRecDepth 20000 in
theorem z_X5_first {D : va_G} {cI cB cJ cZ : ClassId} {H N : Int} {h n : Nat} (hH : H = (h : Int)) (hN : N = (n : Int)) (hh : h < 65536) (hn : n ≤ 16) : ∀ l, Rd l yX5_first cX5_first 2 (some .int) ({ frames := 0, cells := 0, slots := 0, locals := 0 }) D (TY cI cB cJ cZ) [.int (iI H), .int (iI N)] [] (fun v => v = some (.int (iI ((h / 2 ^ (16 - n) : Nat) : Int)))) := by
  intro l
  refine Rd_of (by decide) (Nat.le_of_ble_eq_true rfl) (fun x k hq => ?_)
  refine v_iload_n (n := 1) k dX5_first_0 rfl rfl ?_
  refine v_bipush (n := 3) k dX5_first_1 (by decide) rfl ?_
  refine v_iload_n (n := 4) k dX5_first_3 rfl rfl ?_
  refine v_isub (n := 5) k dX5_first_4 rfl ?_
  refine v_ishr (n := 6) k (((h / 2 ^ (16 - n) : Nat) : Int)) (ax_shr hH (by omega) (by omega) (by omega)) dX5_first_5 rfl ?_
  refine v_iretR k hq ?_ dX5_first_6
  rfl
set_option maxHeartbeats 1000000 in
set_option maxRecDepth 20000 in
theorem z_X5_isPage {D : va_G} {cI cB cJ cZ : ClassId} {hm : Nat} {r : Nat → Nat} {th : Int} {pg lg : Nat} {wt al dn : Int} {dp dm tp an ch : Nat} {P : Int} (hP : in32 P) (hg : pg ≤ 255) : ∀ l, Rd l yX5_isPage cX5_isPage 2 (some .boolean) ({ frames := 0, cells := 0, slots := 0, locals := 0 }) D (TY cI cB cJ cZ) [.ref hm, .int (iI P)] [oM hm r th pg lg wt al dn dp dm tp an ch] (fun v => v = some (.int (iI (bI (pgF pg P))))) := by
  intro l
  refine Rd_of (by decide) (Nat.le_of_ble_eq_true rfl) (fun x k hq => ?_)
  obtain ⟨hp1, hp2⟩ := hP
  refine v_iload_n (n := 1) k dX5_isPage_0 rfl rfl ?_
  refine v_if_lt (n := 4) (t := 16) k (⟨by omega, by omega⟩) dX5_isPage_1 (by decide) rfl (fun c_1 => ?_) (fun c_1 => ?_)
  · refine v_iconst (n := 17) k dX5_isPage_16 rfl ?_
    refine v_zretR k (by decide) hq ?_ dX5_isPage_17
    first
    | (have e9 : pgF pg P = true := decide_eq_true ⟨by omega, by omega⟩
       rw [e9]; rfl)
    | (have e9 : pgF pg P = false := decide_eq_false (by omega)
       rw [e9]; rfl)
  · refine v_iload_n (n := 5) k dX5_isPage_4 rfl rfl ?_
    refine v_aload_n (n := 6) k dX5_isPage_5 rfl rfl ?_
    refine v_get (n := 9) k ciX5 0 2 (by decide) fl_X5_69 rfl rfl dX5_isPage_6 rfl ?_
    refine v_icmp_ge (n := 12) (t := 16) k (⟨by omega, by omega⟩) (⟨by omega, by omega⟩) dX5_isPage_9 (by decide) rfl (fun c_9 => ?_) (fun c_9 => ?_)
    · refine v_iconst (n := 17) k dX5_isPage_16 rfl ?_
      refine v_zretR k (by decide) hq ?_ dX5_isPage_17
      first
      | (have e9 : pgF pg P = true := decide_eq_true ⟨by omega, by omega⟩
         rw [e9]; rfl)
      | (have e9 : pgF pg P = false := decide_eq_false (by omega)
         rw [e9]; rfl)
    · refine v_iconst (n := 13) k dX5_isPage_12 rfl ?_
      refine v_goto (t := 17) k dX5_isPage_13 (by decide) ?_
      refine v_zretR k (by decide) hq ?_ dX5_isPage_17
      first
      | (have e9 : pgF pg P = true := decide_eq_true ⟨by omega, by omega⟩
         rw [e9]; rfl)
      | (have e9 : pgF pg P = false := decide_eq_false (by omega)
         rw [e9]; rfl)
set_option maxHeartbeats 1000000 in
set_option maxRecDepth 20000 in
theorem lp_X5_isDirectory {D : va_G} {cI cB cJ cZ : ClassId} {x : Kx} {hm : Nat} {r : Nat → Nat} {th : Int} {pg lg : Nat} {wt al dn : Int} {dp dm tp an ch : Nat} {Dr : Nat → Nat} {P : Int} {p : Nat} (k : Kf x cX5_isDirectory 3 yX5_isDirectory.cls (some .boolean) D (TY cI cB cJ cZ) ({ frames := 0, cells := 0, slots := 0, locals := 0 })) (hq : isR x (fun v => v = some (.int (iI (bI (dirM Dr dm p)))))) (hP : P = (p : Int)) (hp : p < 256) (hdm : dm ≤ 256) (hD : ∀ j, Dr j < 256) : ∀ (m : Nat) (i : Nat) (I : Int), dm < i + m → i ≤ dm → I = (i : Int) → (∀ r, r < i → (Dr r == p) = false) → Vw x 3 (fun _ => True) D false 0 0 [oM hm r th pg lg wt al dn dp dm tp an ch, aN cI (r 1) 256 Dr] 2 [(0, .ref hm), (1, .int (iI P)), (2, .int (iI I))] [] := by
  intro m
  induction m with
  | zero => intro i I hm9 hi e1 e3; omega
  | succ m ih =>
    intro i I hm9 hi e1 e3
    have hdi := hD i
    refine v_iload_n (n := 3) k dX5_isDirectory_2 rfl rfl ?_
    refine v_aload_n (n := 4) k dX5_isDirectory_3 rfl rfl ?_
    refine v_get (n := 7) k ciX5 0 8 (by decide) fl_X5_98 rfl rfl dX5_isDirectory_4 rfl ?_
    refine v_icmp_ge (n := 10) (t := 28) k (⟨by omega, by omega⟩) (⟨by omega, by omega⟩) dX5_isDirectory_7 (by decide) rfl (fun c_7 => ?_) (fun c_7 => ?_)
    · refine v_iconst (n := 29) k dX5_isDirectory_28 rfl ?_
      refine v_zretR k (by decide) hq ?_ dX5_isDirectory_29
      rw [show dirM Dr dm p = false from any_range_n (fun r hr => e3 r (by omega))]; rfl
    · refine v_aload_n (n := 11) k dX5_isDirectory_10 rfl rfl ?_
      refine v_get (n := 14) k ciX5 0 9 (by decide) fl_X5_18 rfl rfl dX5_isDirectory_11 rfl ?_
      refine v_iload_n (n := 15) k dX5_isDirectory_14 rfl rfl ?_
      refine v_ialdN (n := 16) k 1 0 (i) rfl rfl (by omega) (by omega) (by omega) dX5_isDirectory_15 rfl ?_
      refine v_iload_n (n := 17) k dX5_isDirectory_16 rfl rfl ?_
      refine v_icmp_ne (n := 20) (t := 22) k (⟨by omega, by omega⟩) (⟨by omega, by omega⟩) dX5_isDirectory_17 (by decide) rfl (fun c_17 => ?_) (fun c_17 => ?_)
      · refine v_iinc (n := 25) k dX5_isDirectory_22 rfl (by decide) rfl rfl rfl ?_
        refine v_goto (t := 2) k dX5_isDirectory_25 (by decide) ?_
        exact ih (i + 1) _ (by omega) (by omega) (by omega) (fun r hr => by
          rcases Nat.lt_or_ge r i with q | q
          · exact e3 r q
          · have : r = i := by omega
            rw [this]
            exact beq_false_of_ne (by omega))
      · refine v_iconst (n := 21) k dX5_isDirectory_20 rfl ?_
        refine v_zretR k (by decide) hq ?_ dX5_isDirectory_21
        rw [show dirM Dr dm p = true from any_range (i := i) (by omega) (by rw [show Dr i = p by omega]; exact beq_self_eq_true p)]; rfl
set_option maxHeartbeats 1000000 in
set_option maxRecDepth 20000 in
theorem z_X5_isDirectory {D : va_G} {cI cB cJ cZ : ClassId} {hm : Nat} {r : Nat → Nat} {th : Int} {pg lg : Nat} {wt al dn : Int} {dp dm tp an ch : Nat} {Dr : Nat → Nat} {P : Int} {p : Nat} (hP : P = (p : Int)) (hp : p < 256) (hdm : dm ≤ 256) (hD : ∀ j, Dr j < 256) : ∀ l, Rd l yX5_isDirectory cX5_isDirectory 3 (some .boolean) ({ frames := 0, cells := 0, slots := 0, locals := 0 }) D (TY cI cB cJ cZ) [.ref hm, .int (iI P)] [oM hm r th pg lg wt al dn dp dm tp an ch, aN cI (r 1) 256 Dr] (fun v => v = some (.int (iI (bI (dirM Dr dm p))))) := by
  intro l
  refine Rd_of (by decide) (Nat.le_of_ble_eq_true rfl) (fun x k hq => ?_)
  refine v_iconst (n := 1) k dX5_isDirectory_0 rfl ?_
  refine v_istore_n (n := 2) k dX5_isDirectory_1 rfl (by decide) rfl rfl ?_
  exact lp_X5_isDirectory k hq hP hp hdm hD (dm + 1) 0 _ (by omega) (by omega) rfl (fun r hr => absurd hr (by omega))
set_option maxHeartbeats 1000000 in
set_option maxRecDepth 20000 in
theorem lp_X5_bytesOf {D : va_G} {cI cB cJ cZ : ClassId} {x : Kx} {hm : Nat} {r : Nat → Nat} {th : Int} {pg lg : Nat} {wt al dn : Int} {dp dm tp an ch : Nat} {Mn : Nat → Nat} {q : RQ} {P : Int} {p : Nat} (k : Kf x cX5_bytesOf 4 yX5_bytesOf.cls (some .int) D (TY cI cB cJ cZ) ({ frames := 0, cells := 0, slots := 0, locals := 0 })) (hq : isR x (fun v => v = some (.int (iI (((btM q p (Mn p) : Nat) : Int)))))) (hP : P = (p : Int)) (hp : p < 256) (hM : Mn p ≤ 84) (hQ : QB q) : ∀ (m : Nat) (i : Nat) (S I : Int), Mn p < i + m → i ≤ Mn p → I = (i : Int) → S = ((btM q p i : Nat) : Int) → Vw x 4 (fun _ => True) D false 0 0 [oM hm r th pg lg wt al dn dp dm tp an ch, aN cI (r 6) 256 Mn, aN cI (r 7) 23040 q.1, aN cI (r 8) 23040 q.2.1] 4 [(0, .ref hm), (1, .int (iI P)), (2, .int (iI S)), (3, .int (iI I))] [] := by
  intro m
  induction m with
  | zero => intro i S I hm9 hi e1 e2; omega
  | succ m ih =>
    intro i S I hm9 hi e1 e2
    have hbt := btM_le hQ p i
    have hq9 := hQ (90 * p + i)
    refine v_iload_n (n := 5) k dX5_bytesOf_4 rfl rfl ?_
    refine v_aload_n (n := 6) k dX5_bytesOf_5 rfl rfl ?_
    refine v_get (n := 9) k ciX5 0 14 (by decide) fl_X5_35 rfl rfl dX5_bytesOf_6 rfl ?_
    refine v_iload_n (n := 10) k dX5_bytesOf_9 rfl rfl ?_
    refine v_ialdN (n := 11) k 1 0 (p) rfl rfl (by omega) (by omega) (by omega) dX5_bytesOf_10 rfl ?_
    refine v_icmp_ge (n := 14) (t := 48) k (⟨by omega, by omega⟩) (⟨by omega, by omega⟩) dX5_bytesOf_11 (by decide) rfl (fun c_11 => ?_) (fun c_11 => ?_)
    · refine v_iload_n (n := 49) k dX5_bytesOf_48 rfl rfl ?_
      refine v_iretR k hq ?_ dX5_bytesOf_49
      rw [e2, show i = Mn p by omega]
    · refine v_iload_n (n := 15) k dX5_bytesOf_14 rfl rfl ?_
      refine v_iconst (n := 16) k dX5_bytesOf_15 rfl ?_
      refine v_aload_n (n := 17) k dX5_bytesOf_16 rfl rfl ?_
      refine v_get (n := 20) k ciX5 0 15 (by decide) fl_X5_38 rfl rfl dX5_bytesOf_17 rfl ?_
      refine v_bipush (n := 22) k dX5_bytesOf_20 (by decide) rfl ?_
      refine v_iload_n (n := 23) k dX5_bytesOf_22 rfl rfl ?_
      refine v_imul (n := 24) k dX5_bytesOf_23 rfl ?_
      refine v_iload_n (n := 25) k dX5_bytesOf_24 rfl rfl ?_
      refine v_iadd (n := 26) k dX5_bytesOf_25 rfl ?_
      refine v_ialdN (n := 27) k 2 0 (90 * p + i) rfl rfl (by omega) (by omega) (by omega) dX5_bytesOf_26 rfl ?_
      refine v_iadd (n := 28) k dX5_bytesOf_27 rfl ?_
      refine v_aload_n (n := 29) k dX5_bytesOf_28 rfl rfl ?_
      refine v_get (n := 32) k ciX5 0 16 (by decide) fl_X5_41 rfl rfl dX5_bytesOf_29 rfl ?_
      refine v_bipush (n := 34) k dX5_bytesOf_32 (by decide) rfl ?_
      refine v_iload_n (n := 35) k dX5_bytesOf_34 rfl rfl ?_
      refine v_imul (n := 36) k dX5_bytesOf_35 rfl ?_
      refine v_iload_n (n := 37) k dX5_bytesOf_36 rfl rfl ?_
      refine v_iadd (n := 38) k dX5_bytesOf_37 rfl ?_
      refine v_ialdN (n := 39) k 3 0 (90 * p + i) rfl rfl (by omega) (by omega) (by omega) dX5_bytesOf_38 rfl ?_
      refine v_iadd (n := 40) k dX5_bytesOf_39 rfl ?_
      refine v_iadd (n := 41) k dX5_bytesOf_40 rfl ?_
      refine v_istore_n (n := 42) k dX5_bytesOf_41 rfl (by decide) rfl rfl ?_
      refine v_iinc (n := 45) k dX5_bytesOf_42 rfl (by decide) rfl rfl rfl ?_
      refine v_goto (t := 4) k dX5_bytesOf_45 (by decide) ?_
      exact ih (i + 1) _ _ (by omega) (by omega) (by omega) (by show S + _ = _; rw [e2]; show _ = ((btM q p i + (2 + q.1 (90 * p + i) + q.2.1 (90 * p + i)) : Nat) : Int); omega)
set_option maxHeartbeats 1000000 in
set_option maxRecDepth 20000 in
theorem z_X5_bytesOf {D : va_G} {cI cB cJ cZ : ClassId} {hm : Nat} {r : Nat → Nat} {th : Int} {pg lg : Nat} {wt al dn : Int} {dp dm tp an ch : Nat} {Mn : Nat → Nat} {q : RQ} {P : Int} {p : Nat} (hP : P = (p : Int)) (hp : p < 256) (hM : Mn p ≤ 84) (hQ : QB q) : ∀ l, Rd l yX5_bytesOf cX5_bytesOf 4 (some .int) ({ frames := 0, cells := 0, slots := 0, locals := 0 }) D (TY cI cB cJ cZ) [.ref hm, .int (iI P)] [oM hm r th pg lg wt al dn dp dm tp an ch, aN cI (r 6) 256 Mn, aN cI (r 7) 23040 q.1, aN cI (r 8) 23040 q.2.1] (fun v => v = some (.int (iI (((btM q p (Mn p) : Nat) : Int))))) := by
  intro l
  refine Rd_of (by decide) (Nat.le_of_ble_eq_true rfl) (fun x k hq => ?_)
  refine v_iconst (n := 1) k dX5_bytesOf_0 rfl ?_
  refine v_istore_n (n := 2) k dX5_bytesOf_1 rfl (by decide) rfl rfl ?_
  refine v_iconst (n := 3) k dX5_bytesOf_2 rfl ?_
  refine v_istore_n (n := 4) k dX5_bytesOf_3 rfl (by decide) rfl rfl ?_
  exact lp_X5_bytesOf k hq hP hp hM hQ (Mn p + 1) 0 _ _ (by omega) (by omega) rfl rfl
set_option maxHeartbeats 1000000 in
set_option maxRecDepth 20000 in
theorem lp_X5_hashOf {D : va_G} {cI cB cJ cZ : ClassId} {x : Kx} {hm : Nat} {r : Nat → Nat} {th : Int} {pg lg : Nat} {wt al dn : Int} {dp dm tp an ch : Nat} {q : RQ} {X : Int} {u : Nat} (k : Kf x cX5_hashOf 4 yX5_hashOf.cls (some .int) D (TY cI cB cJ cZ) ({ frames := 1, cells := 0, slots := 0, locals := 22 })) (hq : isR x (fun v => v = some (.int (iI (((hxM q u : Nat) : Int)))))) (hX : X = (u : Int)) (hx : u < 23040) (hQ : QB q) : ∀ (m : Nat) (i : Nat) (S I : Int), q.1 u < i + m → i ≤ q.1 u → I = (i : Int) → S = ((hsh (kb q u) 0 i : Nat) : Int) → Vw x 4 (fun _ => True) D false 0 0 [oM hm r th pg lg wt al dn dp dm tp an ch, aN cI (r 7) 23040 q.1, aL cJ (r 9) 46080 q.2.2.1] 5 [(0, .ref hm), (1, .int (iI X)), (2, .int (iI S)), (3, .int (iI I))] [] := by
  intro m
  induction m with
  | zero => intro i S I hm9 hi e1 e2; omega
  | succ m ih =>
    intro i S I hm9 hi e1 e2
    have hq9 := hQ u
    have hl := hsh_lt (kb q u) 0 i
    refine v_iload_n (n := 6) k dX5_hashOf_5 rfl rfl ?_
    refine v_aload_n (n := 7) k dX5_hashOf_6 rfl rfl ?_
    refine v_get (n := 10) k ciX5 0 15 (by decide) fl_X5_38 rfl rfl dX5_hashOf_7 rfl ?_
    refine v_iload_n (n := 11) k dX5_hashOf_10 rfl rfl ?_
    refine v_ialdN (n := 12) k 1 0 (u) rfl rfl (by omega) (by omega) (by omega) dX5_hashOf_11 rfl ?_
    refine v_icmp_ge (n := 15) (t := 32) k (⟨by omega, by omega⟩) (⟨by omega, by omega⟩) dX5_hashOf_12 (by decide) rfl (fun c_12 => ?_) (fun c_12 => ?_)
    · refine v_iload_n (n := 33) k dX5_hashOf_32 rfl rfl ?_
      refine v_iretR k hq ?_ dX5_hashOf_33
      rw [e2, show i = q.1 u by omega]; rfl
    · refine v_iload_n (n := 16) k dX5_hashOf_15 rfl rfl ?_
      refine v_aload_n (n := 17) k dX5_hashOf_16 rfl rfl ?_
      refine v_iload_n (n := 18) k dX5_hashOf_17 rfl rfl ?_
      refine v_iload_n (n := 19) k dX5_hashOf_18 rfl rfl ?_
      refine v_rdVi (n := 22) k [0, 2] 0 (z_X5_keyByte (u := u) (j := i) hX e1 hx (by omega)) miX5_keyByte ml_X5_111 (by decide) (by decide) rfl (by decide) rfl rfl rfl rfl (Nat.le_of_ble_eq_true rfl) ⟨Nat.zero_le _, Nat.zero_le _⟩ dX5_hashOf_19 rfl ?_
      refine v_rdSi (n := 25) k [] (z_X5_step (h := hsh (kb q u) 0 i) (b := kb q u i) e2 rfl hl (kb_lt q u i)) miX5_step ml_X5_114 (by decide) (by decide) rfl (by decide) rfl rfl (Nat.le_of_ble_eq_true rfl) ⟨Nat.zero_le _, Nat.zero_le _⟩ dX5_hashOf_22 rfl ?_
      refine v_istore_n (n := 26) k dX5_hashOf_25 rfl (by decide) rfl rfl ?_
      refine v_iinc (n := 29) k dX5_hashOf_26 rfl (by decide) rfl rfl rfl ?_
      refine v_goto (t := 5) k dX5_hashOf_29 (by decide) ?_
      exact ih (i + 1) _ _ (by omega) (by omega) (by omega) (by show _ = ((hst (hsh (kb q u) 0 i) (kb q u (0 + i)) : Nat) : Int); rw [Nat.zero_add])
set_option maxHeartbeats 1000000 in
set_option maxRecDepth 20000 in
theorem z_X5_hashOf {D : va_G} {cI cB cJ cZ : ClassId} {hm : Nat} {r : Nat → Nat} {th : Int} {pg lg : Nat} {wt al dn : Int} {dp dm tp an ch : Nat} {q : RQ} {X : Int} {u : Nat} (hX : X = (u : Int)) (hx : u < 23040) (hQ : QB q) : ∀ l, Rd l yX5_hashOf cX5_hashOf 4 (some .int) ({ frames := 1, cells := 0, slots := 0, locals := 22 }) D (TY cI cB cJ cZ) [.ref hm, .int (iI X)] [oM hm r th pg lg wt al dn dp dm tp an ch, aN cI (r 7) 23040 q.1, aL cJ (r 9) 46080 q.2.2.1] (fun v => v = some (.int (iI (((hxM q u : Nat) : Int))))) := by
  intro l
  refine Rd_of (by decide) (Nat.le_of_ble_eq_true rfl) (fun x k hq => ?_)
  refine v_ldc (n := 2) k co_X5_109 dX5_hashOf_0 rfl ?_
  refine v_istore_n (n := 3) k dX5_hashOf_2 rfl (by decide) rfl rfl ?_
  refine v_iconst (n := 4) k dX5_hashOf_3 rfl ?_
  refine v_istore_n (n := 5) k dX5_hashOf_4 rfl (by decide) rfl rfl ?_
  exact lp_X5_hashOf k hq hX hx hQ (q.1 u + 1) 0 _ _ (by omega) (by omega) rfl rfl
set_option maxHeartbeats 1000000 in
set_option maxRecDepth 20000 in
theorem lp_X5_tapeHash {D : va_G} {cI cB cJ cZ : ClassId} {x : Kx} {hm : Nat} {r : Nat → Nat} {th : Int} {pg lg : Nat} {wt al dn : Int} {dp dm tp an ch : Nat} {T : Nat → Nat} {Z : Int} {z : Nat} (k : Kf x cX5_tapeHash 4 yX5_tapeHash.cls (some .int) D (TY cI cB cJ cZ) ({ frames := 1, cells := 0, slots := 0, locals := 22 })) (hq : isR x (fun v => v = some (.int (iI (((hsh T 0 z : Nat) : Int)))))) (hZ : Z = (z : Int)) (hz : z ≤ 48) (hT : ∀ j, T j < 256) : ∀ (m : Nat) (i : Nat) (S I : Int), z < i + m → i ≤ z → I = (i : Int) → S = ((hsh T 0 i : Nat) : Int) → Vw x 4 (fun _ => True) D false 0 0 [oM hm r th pg lg wt al dn dp dm tp an ch, aB cB (r 11) 48 T] 5 [(0, .ref hm), (1, .int (iI Z)), (2, .int (iI S)), (3, .int (iI I))] [] := by
  intro m
  induction m with
  | zero => intro i S I hm9 hi e1 e2; omega
  | succ m ih =>
    intro i S I hm9 hi e1 e2
    have hl := hsh_lt T 0 i
    refine v_iload_n (n := 6) k dX5_tapeHash_5 rfl rfl ?_
    refine v_iload_n (n := 7) k dX5_tapeHash_6 rfl rfl ?_
    refine v_icmp_ge (n := 10) (t := 31) k (⟨by omega, by omega⟩) (⟨by omega, by omega⟩) dX5_tapeHash_7 (by decide) rfl (fun c_7 => ?_) (fun c_7 => ?_)
    · refine v_iload_n (n := 32) k dX5_tapeHash_31 rfl rfl ?_
      refine v_iretR k hq ?_ dX5_tapeHash_32
      rw [e2, show i = z by omega]
    · refine v_iload_n (n := 11) k dX5_tapeHash_10 rfl rfl ?_
      refine v_aload_n (n := 12) k dX5_tapeHash_11 rfl rfl ?_
      refine v_get (n := 15) k ciX5 0 19 (by decide) fl_X5_53 rfl rfl dX5_tapeHash_12 rfl ?_
      refine v_iload_n (n := 16) k dX5_tapeHash_15 rfl rfl ?_
      refine v_baldN (n := 17) k 1 1 (i) rfl rfl (by omega) (by omega) (by omega) dX5_tapeHash_16 rfl ?_
      refine v_sipush (n := 20) k dX5_tapeHash_17 (by decide) rfl ?_
      refine v_iand (n := 21) k (((T i : Nat) : Int)) (sb_and _ (hT i)) dX5_tapeHash_20 rfl ?_
      refine v_rdSi (n := 24) k [] (z_X5_step (h := hsh T 0 i) (b := T i) e2 rfl hl (hT i)) miX5_step ml_X5_114 (by decide) (by decide) rfl (by decide) rfl rfl (Nat.le_of_ble_eq_true rfl) ⟨Nat.zero_le _, Nat.zero_le _⟩ dX5_tapeHash_21 rfl ?_
      refine v_istore_n (n := 25) k dX5_tapeHash_24 rfl (by decide) rfl rfl ?_
      refine v_iinc (n := 28) k dX5_tapeHash_25 rfl (by decide) rfl rfl rfl ?_
      refine v_goto (t := 5) k dX5_tapeHash_28 (by decide) ?_
      exact ih (i + 1) _ _ (by omega) (by omega) (by omega) (by show _ = ((hst (hsh T 0 i) (T (0 + i)) : Nat) : Int); rw [Nat.zero_add])
set_option maxHeartbeats 1000000 in
set_option maxRecDepth 20000 in
theorem z_X5_tapeHash {D : va_G} {cI cB cJ cZ : ClassId} {hm : Nat} {r : Nat → Nat} {th : Int} {pg lg : Nat} {wt al dn : Int} {dp dm tp an ch : Nat} {T : Nat → Nat} {Z : Int} {z : Nat} (hZ : Z = (z : Int)) (hz : z ≤ 48) (hT : ∀ j, T j < 256) : ∀ l, Rd l yX5_tapeHash cX5_tapeHash 4 (some .int) ({ frames := 1, cells := 0, slots := 0, locals := 22 }) D (TY cI cB cJ cZ) [.ref hm, .int (iI Z)] [oM hm r th pg lg wt al dn dp dm tp an ch, aB cB (r 11) 48 T] (fun v => v = some (.int (iI (((hsh T 0 z : Nat) : Int))))) := by
  intro l
  refine Rd_of (by decide) (Nat.le_of_ble_eq_true rfl) (fun x k hq => ?_)
  refine v_ldc (n := 2) k co_X5_109 dX5_tapeHash_0 rfl ?_
  refine v_istore_n (n := 3) k dX5_tapeHash_2 rfl (by decide) rfl rfl ?_
  refine v_iconst (n := 4) k dX5_tapeHash_3 rfl ?_
  refine v_istore_n (n := 5) k dX5_tapeHash_4 rfl (by decide) rfl rfl ?_
  exact lp_X5_tapeHash k hq hZ hz hT (z + 1) 0 _ _ (by omega) (by omega) rfl rfl
def kyP (q : RQ) (T : Nat → Nat) (z x i : Nat) : Bool := q.1 x == z && (List.range i).all (fun j => kb q x j == T j)
theorem kyP_s (q : RQ) (T : Nat → Nat) (z x i : Nat) : kyP q T z x (i + 1) = (kyP q T z x i && kb q x i == T i) := by
  unfold kyP
  rw [List.range_succ, List.all_append, List.all_cons, List.all_nil, Bool.and_true, Bool.and_assoc]
theorem kyP_f {q : RQ} {T : Nat → Nat} {z x i : Nat} (h : kyP q T z x i = false) (hi : i ≤ z) : kyB q T z x = false := by
  unfold kyP at h
  unfold kyB
  rw [Bool.and_eq_false_iff] at h ⊢
  rcases h with h | h
  · exact Or.inl h
  · obtain ⟨a, ha, hb⟩ := List.all_eq_false.mp h
    exact Or.inr (List.all_eq_false.mpr ⟨a, List.mem_range.mpr (Nat.lt_of_lt_of_le (List.mem_range.mp ha) hi), hb⟩)
set_option maxHeartbeats 1000000 in
set_option maxRecDepth 20000 in
theorem lp_X5_isKey {D : va_G} {cI cB cJ cZ : ClassId} {x : Kx} {hm : Nat} {r : Nat → Nat} {th : Int} {pg lg : Nat} {wt al dn : Int} {dp dm tp an ch : Nat} {T : Nat → Nat} {q : RQ} {X Z : Int} {u z : Nat} (k : Kf x cX5_isKey 5 yX5_isKey.cls (some .boolean) D (TY cI cB cJ cZ) ({ frames := 1, cells := 0, slots := 0, locals := 22 })) (hq : isR x (fun v => v = some (.int (iI (bI (kyB q T z u)))))) (hX : X = (u : Int)) (hZ : Z = (z : Int)) (hx : u < 23040) (hz : z ≤ 16) (hQ : QB q) (hT : ∀ j, T j < 256) : ∀ (m : Nat) (i : Nat) (S I : Int), z < i + m → i ≤ z → I = (i : Int) → S = bI (kyP q T z u i) → Vw x 5 (fun _ => True) D false 0 0 [oM hm r th pg lg wt al dn dp dm tp an ch, aN cI (r 7) 23040 q.1, aL cJ (r 9) 46080 q.2.2.1, aB cB (r 11) 48 T] 19 [(0, .ref hm), (1, .int (iI X)), (2, .int (iI Z)), (3, .int (iI S)), (4, .int (iI I))] [] := by
  intro m
  induction m with
  | zero => intro i S I hm9 hi e1 e2; omega
  | succ m ih =>
    intro i S I hm9 hi e1 e2
    have hk9 := kb_lt q u i
    have ht9 := hT i
    have hS : in32 S := by rw [e2]; exact bI_in _
    refine v_iload (n := 21) k dX5_isKey_19 rfl rfl ?_
    refine v_iload_n (n := 22) k dX5_isKey_21 rfl rfl ?_
    refine v_icmp_ge (n := 25) (t := 62) k (⟨by omega, by omega⟩) (⟨by omega, by omega⟩) dX5_isKey_22 (by decide) rfl (fun c_22 => ?_) (fun c_22 => ?_)
    · refine v_iload_n (n := 63) k dX5_isKey_62 rfl rfl ?_
      refine v_zretR k (by rw [e2]; exact bI_z _) hq ?_ dX5_isKey_63
      rw [e2, show i = z by omega]; rfl
    · refine v_iload_n (n := 26) k dX5_isKey_25 rfl rfl ?_
      refine v_if_eq (n := 29) (t := 62) k (hS) dX5_isKey_26 (by decide) rfl (fun c_26 => ?_) (fun c_26 => ?_)
      · refine v_iload_n (n := 63) k dX5_isKey_62 rfl rfl ?_
        refine v_zretR k (by rw [e2]; exact bI_z _) hq ?_ dX5_isKey_63
        have h9 : kyP q T z u i = false := by
          cases h9 : kyP q T z u i with
          | false => rfl
          | true => rw [h9] at e2; rw [e2] at c_26; exact absurd c_26 (by decide)
        rw [e2, h9, kyP_f h9 hi]
      · have hP9 : kyP q T z u i = true := by
          cases h9 : kyP q T z u i with
          | true => rfl
          | false => rw [h9] at e2; exact absurd e2 c_26
        refine v_aload_n (n := 30) k dX5_isKey_29 rfl rfl ?_
        refine v_iload_n (n := 31) k dX5_isKey_30 rfl rfl ?_
        refine v_iload (n := 33) k dX5_isKey_31 rfl rfl ?_
        refine v_rdVi (n := 36) k [0, 2] 0 (z_X5_keyByte (u := u) (j := i) hX e1 hx (by omega)) miX5_keyByte ml_X5_111 (by decide) (by decide) rfl (by decide) rfl rfl rfl rfl (Nat.le_of_ble_eq_true rfl) ⟨Nat.zero_le _, Nat.zero_le _⟩ dX5_isKey_33 rfl ?_
        refine v_aload_n (n := 37) k dX5_isKey_36 rfl rfl ?_
        refine v_get (n := 40) k ciX5 0 19 (by decide) fl_X5_53 rfl rfl dX5_isKey_37 rfl ?_
        refine v_iload (n := 42) k dX5_isKey_40 rfl rfl ?_
        refine v_baldN (n := 43) k 3 1 (i) rfl rfl (by omega) (by omega) (by omega) dX5_isKey_42 rfl ?_
        refine v_sipush (n := 46) k dX5_isKey_43 (by decide) rfl ?_
        refine v_iand (n := 47) k (((T i : Nat) : Int)) (sb_and _ (hT i)) dX5_isKey_46 rfl ?_
        refine v_icmp_ne (n := 50) (t := 54) k (⟨by omega, by omega⟩) (⟨by omega, by omega⟩) dX5_isKey_47 (by decide) rfl (fun c_47 => ?_) (fun c_47 => ?_)
        · refine v_iconst (n := 55) k dX5_isKey_54 rfl ?_
          refine v_istore_n (n := 56) k dX5_isKey_55 rfl (by decide) rfl rfl ?_
          refine v_iinc (n := 59) k dX5_isKey_56 rfl (by decide) rfl rfl rfl ?_
          refine v_goto (t := 19) k dX5_isKey_59 (by decide) ?_
          exact ih (i + 1) _ _ (by omega) (by omega) (by omega) (by rw [kyP_s, hP9, show (kb q u i == T i) = false from beq_false_of_ne (by omega)]; rfl)
        · refine v_iconst (n := 51) k dX5_isKey_50 rfl ?_
          refine v_goto (t := 55) k dX5_isKey_51 (by decide) ?_
          refine v_istore_n (n := 56) k dX5_isKey_55 rfl (by decide) rfl rfl ?_
          refine v_iinc (n := 59) k dX5_isKey_56 rfl (by decide) rfl rfl rfl ?_
          refine v_goto (t := 19) k dX5_isKey_59 (by decide) ?_
          exact ih (i + 1) _ _ (by omega) (by omega) (by omega) (by rw [kyP_s, hP9, show (kb q u i == T i) = true from beq_iff_eq.mpr (by omega)]; rfl)
set_option maxHeartbeats 1000000 in
set_option maxRecDepth 20000 in
theorem z_X5_isKey {D : va_G} {cI cB cJ cZ : ClassId} {hm : Nat} {r : Nat → Nat} {th : Int} {pg lg : Nat} {wt al dn : Int} {dp dm tp an ch : Nat} {T : Nat → Nat} {q : RQ} {X Z : Int} {u z : Nat} (hX : X = (u : Int)) (hZ : Z = (z : Int)) (hx : u < 23040) (hz : z ≤ 16) (hQ : QB q) (hT : ∀ j, T j < 256) : ∀ l, Rd l yX5_isKey cX5_isKey 5 (some .boolean) ({ frames := 1, cells := 0, slots := 0, locals := 22 }) D (TY cI cB cJ cZ) [.ref hm, .int (iI X), .int (iI Z)] [oM hm r th pg lg wt al dn dp dm tp an ch, aN cI (r 7) 23040 q.1, aL cJ (r 9) 46080 q.2.2.1, aB cB (r 11) 48 T] (fun v => v = some (.int (iI (bI (kyB q T z u))))) := by
  intro l
  refine Rd_of (by decide) (Nat.le_of_ble_eq_true rfl) (fun x k hq => ?_)
  have hq9 := hQ u
  refine v_aload_n (n := 1) k dX5_isKey_0 rfl rfl ?_
  refine v_get (n := 4) k ciX5 0 15 (by decide) fl_X5_38 rfl rfl dX5_isKey_1 rfl ?_
  refine v_iload_n (n := 5) k dX5_isKey_4 rfl rfl ?_
  refine v_ialdN (n := 6) k 1 0 (u) rfl rfl (by omega) (by omega) (by omega) dX5_isKey_5 rfl ?_
  refine v_iload_n (n := 7) k dX5_isKey_6 rfl rfl ?_
  refine v_icmp_ne (n := 10) (t := 14) k (⟨by omega, by omega⟩) (⟨by omega, by omega⟩) dX5_isKey_7 (by decide) rfl (fun c_7 => ?_) (fun c_7 => ?_)
  · refine v_iconst (n := 15) k dX5_isKey_14 rfl ?_
    refine v_istore_n (n := 16) k dX5_isKey_15 rfl (by decide) rfl rfl ?_
    refine v_iconst (n := 17) k dX5_isKey_16 rfl ?_
    refine v_istore (n := 19) k dX5_isKey_17 rfl (by decide) rfl rfl ?_
    exact lp_X5_isKey k hq hX hZ hx hz hQ hT (z + 1) 0 _ _ (by omega) (by omega) rfl (by unfold kyP; rw [show (q.1 u == z) = false from beq_false_of_ne (by omega)]; rfl)
  · refine v_iconst (n := 11) k dX5_isKey_10 rfl ?_
    refine v_goto (t := 15) k dX5_isKey_11 (by decide) ?_
    refine v_istore_n (n := 16) k dX5_isKey_15 rfl (by decide) rfl rfl ?_
    refine v_iconst (n := 17) k dX5_isKey_16 rfl ?_
    refine v_istore (n := 19) k dX5_isKey_17 rfl (by decide) rfl rfl ?_
    exact lp_X5_isKey k hq hX hZ hx hz hQ hT (z + 1) 0 _ _ (by omega) (by omega) rfl (by unfold kyP; rw [show (q.1 u == z) = true from beq_iff_eq.mpr (by omega)]; rfl)
set_option maxHeartbeats 1000000 in
set_option maxRecDepth 20000 in
theorem lp_X5_find {D : va_G} {cI cB cJ cZ : ClassId} {x : Kx} {hm : Nat} {r : Nat → Nat} {th : Int} {pg lg : Nat} {wt al dn : Int} {dp dm tp an ch : Nat} {Mn : Nat → Nat} {T : Nat → Nat} {q : RQ} {P Z : Int} {p z : Nat} (k : Kf x cX5_find 4 yX5_find.cls (some .int) D (TY cI cB cJ cZ) ({ frames := 2, cells := 0, slots := 0, locals := 46 })) (hq : isR x (fun v => v = some (.int (iI (fdI (fdM q T Mn p z)))))) (hP : P = (p : Int)) (hZ : Z = (z : Int)) (hp : p < 256) (hz : z ≤ 16) (hM : Mn p ≤ 84) (hQ : QB q) (hT : ∀ j, T j < 256) : ∀ (m : Nat) (i : Nat) (I : Int), Mn p < i + m → i ≤ Mn p → I = (i : Int) → (∀ r, r < i → kyB q T z (90 * p + r) = false) → Vw x 4 (fun _ => True) D false 0 0 [oM hm r th pg lg wt al dn dp dm tp an ch, aN cI (r 6) 256 Mn, aN cI (r 7) 23040 q.1, aL cJ (r 9) 46080 q.2.2.1, aB cB (r 11) 48 T] 2 [(0, .ref hm), (1, .int (iI P)), (2, .int (iI Z)), (3, .int (iI I))] [] := by
  intro m
  induction m with
  | zero => intro i I hm9 hi e1 e3; omega
  | succ m ih =>
    intro i I hm9 hi e1 e3
    refine v_iload_n (n := 3) k dX5_find_2 rfl rfl ?_
    refine v_aload_n (n := 4) k dX5_find_3 rfl rfl ?_
    refine v_get (n := 7) k ciX5 0 14 (by decide) fl_X5_35 rfl rfl dX5_find_4 rfl ?_
    refine v_iload_n (n := 8) k dX5_find_7 rfl rfl ?_
    refine v_ialdN (n := 9) k 1 0 (p) rfl rfl (by omega) (by omega) (by omega) dX5_find_8 rfl ?_
    refine v_icmp_ge (n := 12) (t := 34) k (⟨by omega, by omega⟩) (⟨by omega, by omega⟩) dX5_find_9 (by decide) rfl (fun c_9 => ?_) (fun c_9 => ?_)
    · refine v_iconst (n := 35) k dX5_find_34 rfl ?_
      refine v_iretR k hq ?_ dX5_find_35
      rw [show fdM q T Mn p z = none from find_range_n (fun r hr => e3 r (by omega))]; rfl
    · refine v_aload_n (n := 13) k dX5_find_12 rfl rfl ?_
      refine v_bipush (n := 15) k dX5_find_13 (by decide) rfl ?_
      refine v_iload_n (n := 16) k dX5_find_15 rfl rfl ?_
      refine v_imul (n := 17) k dX5_find_16 rfl ?_
      refine v_iload_n (n := 18) k dX5_find_17 rfl rfl ?_
      refine v_iadd (n := 19) k dX5_find_18 rfl ?_
      refine v_iload_n (n := 20) k dX5_find_19 rfl rfl ?_
      refine v_rdVi (n := 23) k [0, 2, 3, 4] 0 (z_X5_isKey (u := 90 * p + i) (z := z) (by omega) hZ (by omega) hz hQ hT) miX5_isKey ml_X5_146 (by decide) (by decide) rfl (by decide) rfl rfl rfl rfl (Nat.le_of_ble_eq_true rfl) ⟨Nat.zero_le _, Nat.zero_le _⟩ dX5_find_20 rfl ?_
      refine v_if_eq (n := 26) (t := 28) k (bI_in _) dX5_find_23 (by decide) rfl (fun c_23 => ?_) (fun c_23 => ?_)
      · refine v_iinc (n := 31) k dX5_find_28 rfl (by decide) rfl rfl rfl ?_
        refine v_goto (t := 2) k dX5_find_31 (by decide) ?_
        exact ih (i + 1) _ (by omega) (by omega) (by omega) (fun r hr => by
          rcases Nat.lt_or_ge r i with q9 | q9
          · exact e3 r q9
          · have : r = i := by omega
            rw [this]
            cases h9 : kyB q T z (90 * p + i) with
            | false => rfl
            | true => rw [h9] at c_23; exact absurd c_23 (by decide))
      · refine v_iload_n (n := 27) k dX5_find_26 rfl rfl ?_
        refine v_iretR k hq ?_ dX5_find_27
        have h8 : kyB q T z (90 * p + i) = true := by
          cases h9 : kyB q T z (90 * p + i) with
          | true => rfl
          | false => exact absurd (bI_f h9) c_23
        rw [show fdM q T Mn p z = some i from find_range (by omega) h8 e3, e1]; rfl
set_option maxHeartbeats 1000000 in
set_option maxRecDepth 20000 in
theorem z_X5_find {D : va_G} {cI cB cJ cZ : ClassId} {hm : Nat} {r : Nat → Nat} {th : Int} {pg lg : Nat} {wt al dn : Int} {dp dm tp an ch : Nat} {Mn : Nat → Nat} {T : Nat → Nat} {q : RQ} {P Z : Int} {p z : Nat} (hP : P = (p : Int)) (hZ : Z = (z : Int)) (hp : p < 256) (hz : z ≤ 16) (hM : Mn p ≤ 84) (hQ : QB q) (hT : ∀ j, T j < 256) : ∀ l, Rd l yX5_find cX5_find 4 (some .int) ({ frames := 2, cells := 0, slots := 0, locals := 46 }) D (TY cI cB cJ cZ) [.ref hm, .int (iI P), .int (iI Z)] [oM hm r th pg lg wt al dn dp dm tp an ch, aN cI (r 6) 256 Mn, aN cI (r 7) 23040 q.1, aL cJ (r 9) 46080 q.2.2.1, aB cB (r 11) 48 T] (fun v => v = some (.int (iI (fdI (fdM q T Mn p z))))) := by
  intro l
  refine Rd_of (by decide) (Nat.le_of_ble_eq_true rfl) (fun x k hq => ?_)
  refine v_iconst (n := 1) k dX5_find_0 rfl ?_
  refine v_istore_n (n := 2) k dX5_find_1 rfl (by decide) rfl rfl ?_
  exact lp_X5_find k hq hP hZ hp hz hM hQ hT (Mn p + 1) 0 _ (by omega) (by omega) rfl (fun r hr => absurd hr (by omega))
def alP (q : RQ) (p h i : Nat) : Bool := (List.range i).all (fun r => hxM q (90 * p + r) == h)
theorem alP_s (q : RQ) (p h i : Nat) : alP q p h (i + 1) = (alP q p h i && hxM q (90 * p + i) == h) := by
  unfold alP
  rw [List.range_succ, List.all_append, List.all_cons, List.all_nil, Bool.and_true]
theorem hxM_lt (q : RQ) (x : Nat) : hxM q x < 65536 := hsh_lt _ _ _
set_option maxHeartbeats 1000000 in
set_option maxRecDepth 20000 in
theorem lp_X5_isAlike {D : va_G} {cI cB cJ cZ : ClassId} {x : Kx} {hm : Nat} {r : Nat → Nat} {th : Int} {pg lg : Nat} {wt al dn : Int} {dp dm tp an ch : Nat} {Mn : Nat → Nat} {q : RQ} {P Z : Int} {p h : Nat} (k : Kf x cX5_isAlike 5 yX5_isAlike.cls (some .boolean) D (TY cI cB cJ cZ) ({ frames := 2, cells := 0, slots := 0, locals := 45 })) (hq : isR x (fun v => v = some (.int (iI (bI (alM q Mn p h)))))) (hP : P = (p : Int)) (hZ : Z = (h : Int)) (hp : p < 256) (hh : h < 65536) (hM : Mn p ≤ 84) (hQ : QB q) : ∀ (m : Nat) (i : Nat) (S I : Int), Mn p < i + m → i ≤ Mn p → I = (i : Int) → S = bI (alP q p h i) → Vw x 5 (fun _ => True) D false 0 0 [oM hm r th pg lg wt al dn dp dm tp an ch, aN cI (r 6) 256 Mn, aN cI (r 7) 23040 q.1, aL cJ (r 9) 46080 q.2.2.1] 5 [(0, .ref hm), (1, .int (iI P)), (2, .int (iI Z)), (3, .int (iI S)), (4, .int (iI I))] [] := by
  intro m
  induction m with
  | zero => intro i S I hm9 hi e1 e2; omega
  | succ m ih =>
    intro i S I hm9 hi e1 e2
    have hx9 := hxM_lt q (90 * p + i)
    have hS : in32 S := by rw [e2]; exact bI_in _
    refine v_iload (n := 7) k dX5_isAlike_5 rfl rfl ?_
    refine v_aload_n (n := 8) k dX5_isAlike_7 rfl rfl ?_
    refine v_get (n := 11) k ciX5 0 14 (by decide) fl_X5_35 rfl rfl dX5_isAlike_8 rfl ?_
    refine v_iload_n (n := 12) k dX5_isAlike_11 rfl rfl ?_
    refine v_ialdN (n := 13) k 1 0 (p) rfl rfl (by omega) (by omega) (by omega) dX5_isAlike_12 rfl ?_
    refine v_icmp_ge (n := 16) (t := 47) k (⟨by omega, by omega⟩) (⟨by omega, by omega⟩) dX5_isAlike_13 (by decide) rfl (fun c_13 => ?_) (fun c_13 => ?_)
    · refine v_iload_n (n := 48) k dX5_isAlike_47 rfl rfl ?_
      refine v_zretR k (by rw [e2]; exact bI_z _) hq ?_ dX5_isAlike_48
      rw [e2, show i = Mn p by omega]; rfl
    · refine v_iload_n (n := 17) k dX5_isAlike_16 rfl rfl ?_
      refine v_if_eq (n := 20) (t := 39) k (hS) dX5_isAlike_17 (by decide) rfl (fun c_17 => ?_) (fun c_17 => ?_)
      · refine v_iconst (n := 40) k dX5_isAlike_39 rfl ?_
        refine v_istore_n (n := 41) k dX5_isAlike_40 rfl (by decide) rfl rfl ?_
        refine v_iinc (n := 44) k dX5_isAlike_41 rfl (by decide) rfl rfl rfl ?_
        refine v_goto (t := 5) k dX5_isAlike_44 (by decide) ?_
        exact ih (i + 1) _ _ (by omega) (by omega) (by omega) (by
          rw [alP_s]
          have h9 : alP q p h i = false := by
            cases h9 : alP q p h i with
            | false => rfl
            | true => rw [h9] at e2; rw [e2] at c_17; exact absurd c_17 (by decide)
          rw [h9]; rfl)
      · refine v_aload_n (n := 21) k dX5_isAlike_20 rfl rfl ?_
        refine v_bipush (n := 23) k dX5_isAlike_21 (by decide) rfl ?_
        refine v_iload_n (n := 24) k dX5_isAlike_23 rfl rfl ?_
        refine v_imul (n := 25) k dX5_isAlike_24 rfl ?_
        refine v_iload (n := 27) k dX5_isAlike_25 rfl rfl ?_
        refine v_iadd (n := 28) k dX5_isAlike_27 rfl ?_
        refine v_rdVi (n := 31) k [0, 2, 3] 0 (z_X5_hashOf (u := 90 * p + i) (by omega) (by omega) hQ) miX5_hashOf ml_X5_163 (by decide) (by decide) rfl (by decide) rfl rfl rfl rfl (Nat.le_of_ble_eq_true rfl) ⟨Nat.zero_le _, Nat.zero_le _⟩ dX5_isAlike_28 rfl ?_
        refine v_iload_n (n := 32) k dX5_isAlike_31 rfl rfl ?_
        refine v_icmp_ne (n := 35) (t := 39) k (⟨by omega, by omega⟩) (⟨by omega, by omega⟩) dX5_isAlike_32 (by decide) rfl (fun c_32 => ?_) (fun c_32 => ?_)
        · refine v_iconst (n := 40) k dX5_isAlike_39 rfl ?_
          refine v_istore_n (n := 41) k dX5_isAlike_40 rfl (by decide) rfl rfl ?_
          refine v_iinc (n := 44) k dX5_isAlike_41 rfl (by decide) rfl rfl rfl ?_
          refine v_goto (t := 5) k dX5_isAlike_44 (by decide) ?_
          exact ih (i + 1) _ _ (by omega) (by omega) (by omega) (by
            rw [alP_s]
            have h9 : alP q p h i = true := by
              cases h9 : alP q p h i with
              | true => rfl
              | false => rw [h9] at e2; exact absurd e2 c_17
            rw [h9, show (hxM q (90 * p + i) == h) = false from beq_false_of_ne (by omega)]; rfl)
        · refine v_iconst (n := 36) k dX5_isAlike_35 rfl ?_
          refine v_goto (t := 40) k dX5_isAlike_36 (by decide) ?_
          refine v_istore_n (n := 41) k dX5_isAlike_40 rfl (by decide) rfl rfl ?_
          refine v_iinc (n := 44) k dX5_isAlike_41 rfl (by decide) rfl rfl rfl ?_
          refine v_goto (t := 5) k dX5_isAlike_44 (by decide) ?_
          exact ih (i + 1) _ _ (by omega) (by omega) (by omega) (by
            rw [alP_s]
            have h9 : alP q p h i = true := by
              cases h9 : alP q p h i with
              | true => rfl
              | false => rw [h9] at e2; exact absurd e2 c_17
            rw [h9, show (hxM q (90 * p + i) == h) = true from beq_iff_eq.mpr (by omega)]; rfl)
set_option maxHeartbeats 1000000 in
set_option maxRecDepth 20000 in
theorem z_X5_isAlike {D : va_G} {cI cB cJ cZ : ClassId} {hm : Nat} {r : Nat → Nat} {th : Int} {pg lg : Nat} {wt al dn : Int} {dp dm tp an ch : Nat} {Mn : Nat → Nat} {q : RQ} {P Z : Int} {p h : Nat} (hP : P = (p : Int)) (hZ : Z = (h : Int)) (hp : p < 256) (hh : h < 65536) (hM : Mn p ≤ 84) (hQ : QB q) : ∀ l, Rd l yX5_isAlike cX5_isAlike 5 (some .boolean) ({ frames := 2, cells := 0, slots := 0, locals := 45 }) D (TY cI cB cJ cZ) [.ref hm, .int (iI P), .int (iI Z)] [oM hm r th pg lg wt al dn dp dm tp an ch, aN cI (r 6) 256 Mn, aN cI (r 7) 23040 q.1, aL cJ (r 9) 46080 q.2.2.1] (fun v => v = some (.int (iI (bI (alM q Mn p h))))) := by
  intro l
  refine Rd_of (by decide) (Nat.le_of_ble_eq_true rfl) (fun x k hq => ?_)
  refine v_iconst (n := 1) k dX5_isAlike_0 rfl ?_
  refine v_istore_n (n := 2) k dX5_isAlike_1 rfl (by decide) rfl rfl ?_
  refine v_iconst (n := 3) k dX5_isAlike_2 rfl ?_
  refine v_istore (n := 5) k dX5_isAlike_3 rfl (by decide) rfl rfl ?_
  exact lp_X5_isAlike k hq hP hZ hp hh hM hQ (Mn p + 1) 0 _ _ (by omega) (by omega) rfl rfl
def lsM (q : RQ) (T : Nat → Nat) (Mn : Nat → Nat) (p z : Nat) : Nat := match fdM q T Mn p z with
  | some r => 2 + z + q.2.1 (90 * p + r)
  | none => 0
theorem fdM_some {q : RQ} {T Mn : Nat → Nat} {p z r : Nat} (h : fdM q T Mn p z = some r) : r < Mn p ∧ kyB q T z (90 * p + r) = true ∧ q.1 (90 * p + r) = z := by
  unfold fdM at h
  have h1 := List.mem_range.mp (List.mem_of_find?_eq_some h)
  have h2 := List.find?_some h
  refine ⟨h1, h2, ?_⟩
  unfold kyB at h2
  rw [Bool.and_eq_true] at h2
  exact beq_iff_eq.mp h2.1
theorem fdI_in {o : Option Nat} {n : Nat} (hn : n < 2147483648) (h : ∀ r, o = some r → r < n) : in32 (fdI o) := by
  cases o with
  | none => exact ⟨by decide, by decide⟩
  | some r => have := h r rfl; exact ⟨by show _ ≤ (r : Int); omega, by show (r : Int) ≤ _; omega⟩
set_option maxHeartbeats 1000000 in
set_option maxRecDepth 20000 in
theorem z_X5_filled {D : va_G} {cI cB cJ cZ : ClassId} {hm : Nat} {r : Nat → Nat} {th : Int} {pg lg : Nat} {wt al dn : Int} {dp dm tp an ch : Nat} {Mn : Nat → Nat} {T : Nat → Nat} {q : RQ} {P Z A : Int} {p z a : Nat} (hP : P = (p : Int)) (hZ : Z = (z : Int)) (hA : A = (a : Int)) (ha : a ≤ 48) (hp : p < 256) (hz : z ≤ 16) (hM : Mn p ≤ 84) (hQ : QB q) (hT : ∀ j, T j < 256) : ∀ l, Rd l yX5_filled cX5_filled 6 (some .int) ({ frames := 3, cells := 0, slots := 0, locals := 69 }) D (TY cI cB cJ cZ) [.ref hm, .int (iI P), .int (iI Z), .int (iI A)] [oM hm r th pg lg wt al dn dp dm tp an ch, aN cI (r 6) 256 Mn, aN cI (r 7) 23040 q.1, aN cI (r 8) 23040 q.2.1, aL cJ (r 9) 46080 q.2.2.1, aB cB (r 11) 48 T] (fun v => v = some (.int (iI (((btM q p (Mn p) : Nat) : Int) - ((lsM q T Mn p z : Nat) : Int) + 2 + (a : Int))))) := by
  intro l
  refine Rd_of (by decide) (Nat.le_of_ble_eq_true rfl) (fun x k hq => ?_)
  refine v_aload_n (n := 1) k dX5_filled_0 rfl rfl ?_
  refine v_iload_n (n := 2) k dX5_filled_1 rfl rfl ?_
  refine v_iload_n (n := 3) k dX5_filled_2 rfl rfl ?_
  refine v_rdVi (n := 6) k [0, 1, 2, 4, 5] 0 (z_X5_find (p := p) (z := z) hP hZ hp hz hM hQ hT) miX5_find ml_X5_169 (by decide) (by decide) rfl (by decide) rfl rfl rfl rfl (Nat.le_of_ble_eq_true rfl) ⟨Nat.zero_le _, Nat.zero_le _⟩ dX5_filled_3 rfl ?_
  refine v_istore (n := 8) k dX5_filled_6 rfl (by decide) rfl rfl ?_
  refine v_iload (n := 10) k dX5_filled_8 rfl rfl ?_
  refine v_iconst (n := 11) k dX5_filled_10 rfl ?_
  refine v_icmp_ne (n := 14) (t := 18) k (fdI_in (n := Mn p) (by omega) (fun r hr => (fdM_some hr).1)) (⟨by omega, by omega⟩) dX5_filled_11 (by decide) rfl (fun c_11 => ?_) (fun c_11 => ?_)
  · have hr9 : ∃ r, fdM q T Mn p z = some r := by
      cases h9 : fdM q T Mn p z with
      | some r => exact ⟨r, rfl⟩
      | none => rw [h9] at c_11; exact absurd rfl c_11
    obtain ⟨r9, hr9⟩ := hr9
    have hr8 := (fdM_some hr9).1
    have ht9 : fdI (fdM q T Mn p z) = (r9 : Int) := by rw [hr9]; rfl
    have hq9 := hQ (90 * p + r9)
    refine v_iconst (n := 19) k dX5_filled_18 rfl ?_
    refine v_iload_n (n := 20) k dX5_filled_19 rfl rfl ?_
    refine v_iadd (n := 21) k dX5_filled_20 rfl ?_
    refine v_aload_n (n := 22) k dX5_filled_21 rfl rfl ?_
    refine v_get (n := 25) k ciX5 0 16 (by decide) fl_X5_41 rfl rfl dX5_filled_22 rfl ?_
    refine v_bipush (n := 27) k dX5_filled_25 (by decide) rfl ?_
    refine v_iload_n (n := 28) k dX5_filled_27 rfl rfl ?_
    refine v_imul (n := 29) k dX5_filled_28 rfl ?_
    refine v_iload (n := 31) k dX5_filled_29 rfl rfl ?_
    refine v_iadd (n := 32) k dX5_filled_31 rfl ?_
    refine v_ialdN (n := 33) k 3 0 (90 * p + (fdI (fdM q T Mn p z)).toNat) rfl rfl (by omega) (by omega) (by omega) dX5_filled_32 rfl ?_
    refine v_iadd (n := 34) k dX5_filled_33 rfl ?_
    refine v_istore (n := 36) k dX5_filled_34 rfl (by decide) rfl rfl ?_
    refine v_aload_n (n := 37) k dX5_filled_36 rfl rfl ?_
    refine v_iload_n (n := 38) k dX5_filled_37 rfl rfl ?_
    refine v_rdVi (n := 41) k [0, 1, 2, 3] 0 (z_X5_bytesOf (p := p) hP hp hM hQ) miX5_bytesOf ml_X5_117 (by decide) (by decide) rfl (by decide) rfl rfl rfl rfl (Nat.le_of_ble_eq_true rfl) ⟨Nat.zero_le _, Nat.zero_le _⟩ dX5_filled_38 rfl ?_
    refine v_iload (n := 43) k dX5_filled_41 rfl rfl ?_
    refine v_isub (n := 44) k dX5_filled_43 rfl ?_
    refine v_iconst (n := 45) k dX5_filled_44 rfl ?_
    refine v_iadd (n := 46) k dX5_filled_45 rfl ?_
    refine v_iload_n (n := 47) k dX5_filled_46 rfl rfl ?_
    refine v_iadd (n := 48) k dX5_filled_47 rfl ?_
    refine v_iretR k hq ?_ dX5_filled_48
    have hl9 : lsM q T Mn p z = 2 + z + q.2.1 (90 * p + r9) := by unfold lsM; rw [hr9]
    have ht8 : (fdI (fdM q T Mn p z)).toNat = r9 := by rw [ht9]; rfl
    rw [ht8, hl9, hA, hZ]; exact congrArg (fun z => some (Value.int (iI z))) (by omega)
  · refine v_iconst (n := 15) k dX5_filled_14 rfl ?_
    refine v_goto (t := 34) k dX5_filled_15 (by decide) ?_
    refine v_istore (n := 36) k dX5_filled_34 rfl (by decide) rfl rfl ?_
    refine v_aload_n (n := 37) k dX5_filled_36 rfl rfl ?_
    refine v_iload_n (n := 38) k dX5_filled_37 rfl rfl ?_
    refine v_rdVi (n := 41) k [0, 1, 2, 3] 0 (z_X5_bytesOf (p := p) hP hp hM hQ) miX5_bytesOf ml_X5_117 (by decide) (by decide) rfl (by decide) rfl rfl rfl rfl (Nat.le_of_ble_eq_true rfl) ⟨Nat.zero_le _, Nat.zero_le _⟩ dX5_filled_38 rfl ?_
    refine v_iload (n := 43) k dX5_filled_41 rfl rfl ?_
    refine v_isub (n := 44) k dX5_filled_43 rfl ?_
    refine v_iconst (n := 45) k dX5_filled_44 rfl ?_
    refine v_iadd (n := 46) k dX5_filled_45 rfl ?_
    refine v_iload_n (n := 47) k dX5_filled_46 rfl rfl ?_
    refine v_iadd (n := 48) k dX5_filled_47 rfl ?_
    refine v_iretR k hq ?_ dX5_filled_48
    have hr9 : fdM q T Mn p z = none := by
      cases h9 : fdM q T Mn p z with
      | none => rfl
      | some r => rw [h9] at c_11; exfalso; have : (r : Int) = -1 := c_11; omega
    have hl9 : lsM q T Mn p z = 0 := by unfold lsM; rw [hr9]
    rw [hl9, hA]; exact congrArg (fun z => some (Value.int (iI z))) (by omega)
theorem hdiv_lt {h d : Nat} (hh : h < 65536) (hd : d ≤ 16) : h / 2 ^ (16 - d) < 2 ^ d := by
  rw [Nat.div_lt_iff_lt_mul (Nat.pow_pos (by decide)), ← Nat.pow_add, show d + (16 - d) = 16 by omega]
  exact hh
theorem pow16 {d : Nat} (hd : d ≤ 16) : 2 ^ d ≤ 65536 := Nat.pow_le_pow_right (n := 2) (by decide) hd
set_option maxHeartbeats 1000000 in
set_option maxRecDepth 20000 in
theorem z_X5_bucketOf {D : va_G} {cI cB cJ cZ : ClassId} {hm : Nat} {r : Nat → Nat} {th : Int} {pg lg : Nat} {wt al dn : Int} {dp dm tp an ch : Nat} {En : Nat → Nat} {T : Nat → Nat} {Z : Int} {z : Nat} (hZ : Z = (z : Int)) (hz : z ≤ 48) (hd : dp ≤ 16) (hT : ∀ j, T j < 256) : ∀ l, Rd l yX5_bucketOf cX5_bucketOf 2 (some .int) ({ frames := 2, cells := 0, slots := 0, locals := 45 }) D (TY cI cB cJ cZ) [.ref hm, .int (iI Z)] [oM hm r th pg lg wt al dn dp dm tp an ch, aN cI (r 2) 65536 En, aB cB (r 11) 48 T] (fun v => v = some (.int (iI (((En (hsh T 0 z / 2 ^ (16 - dp)) : Nat) : Int))))) := by
  intro l
  refine Rd_of (by decide) (Nat.le_of_ble_eq_true rfl) (fun x k hq => ?_)
  have hl := hsh_lt T 0 z
  have h1 := hdiv_lt hl hd
  have h2 := pow16 hd
  refine v_aload_n (n := 1) k dX5_bucketOf_0 rfl rfl ?_
  refine v_get (n := 4) k ciX5 0 10 (by decide) fl_X5_22 rfl rfl dX5_bucketOf_1 rfl ?_
  refine v_aload_n (n := 5) k dX5_bucketOf_4 rfl rfl ?_
  refine v_iload_n (n := 6) k dX5_bucketOf_5 rfl rfl ?_
  refine v_rdVi (n := 9) k [0, 2] 0 (z_X5_tapeHash (z := z) hZ hz hT) miX5_tapeHash ml_X5_140 (by decide) (by decide) rfl (by decide) rfl rfl rfl rfl (Nat.le_of_ble_eq_true rfl) ⟨Nat.zero_le _, Nat.zero_le _⟩ dX5_bucketOf_6 rfl ?_
  refine v_aload_n (n := 10) k dX5_bucketOf_9 rfl rfl ?_
  refine v_get (n := 13) k ciX5 0 7 (by decide) fl_X5_95 rfl rfl dX5_bucketOf_10 rfl ?_
  refine v_rdSi (n := 16) k [] (z_X5_first (h := hsh T 0 z) (n := dp) rfl rfl hl hd) miX5_first ml_X5_143 (by decide) (by decide) rfl (by decide) rfl rfl (Nat.le_of_ble_eq_true rfl) ⟨Nat.zero_le _, Nat.zero_le _⟩ dX5_bucketOf_13 rfl ?_
  refine v_ialdN (n := 17) k 1 0 (hsh T 0 z / 2 ^ (16 - dp)) rfl rfl (by omega) (by omega) (by omega) dX5_bucketOf_16 rfl ?_
  refine v_iretR k hq ?_ dX5_bucketOf_17
  rfl
