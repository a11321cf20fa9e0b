/-- a bucket's page that is being built: depth, how many records, how many bytes it says, the bytes that are there -/
def bpi (d n L : Nat) (bs : List Nat) : Nat → Nat := fun i => if i = 0 then d else if i = 1 then n else if i = 2 then L / 256 else if i = 3 then L % 256 else bs.getD (i - 4) 0
/-- a bucket's page: depth and records -/
def bpg (d : Nat) (rs : List (List Nat)) : Nat → Nat := bpi d rs.length rs.flatten.length rs.flatten
theorem bpg_0 {d : Nat} (h : d < 256) : upN (fun _ => 0) 0 (d % 256) = bpg d [] := by
  funext i
  unfold upN bpg bpi
  by_cases h0 : i = 0
  · rw [if_pos h0, if_pos h0, Nat.mod_eq_of_lt h]
  · rw [if_neg h0, if_neg h0]
    simp
theorem bpi_set {d n L b i : Nat} {bs : List Nat} (hi : i = 4 + bs.length) (hb : b < 256) : upN (bpi d n L bs) i (b % 256) = bpi d n L (bs ++ [b]) := by
  funext j
  unfold upN bpi
  by_cases h0 : j = 0
  · rw [if_neg (by omega), if_pos h0, if_pos h0]
  by_cases h1 : j = 1
  · rw [if_neg (by omega), if_neg h0, if_pos h1, if_neg h0, if_pos h1]
  by_cases h2 : j = 2
  · rw [if_neg (by omega), if_neg h0, if_neg h1, if_pos h2, if_neg h0, if_neg h1, if_pos h2]
  by_cases h3 : j = 3
  · rw [if_neg (by omega), if_neg h0, if_neg h1, if_neg h2, if_pos h3, if_neg h0, if_neg h1, if_neg h2, if_pos h3]
  rw [if_neg h0, if_neg h1, if_neg h2, if_neg h3, if_neg h0, if_neg h1, if_neg h2, if_neg h3]
  by_cases e : j = i
  · rw [if_pos e, Nat.mod_eq_of_lt hb, show j - 4 = bs.length by omega]
    simp [List.getD_eq_getElem?_getD]
  · rw [if_neg e, List.getD_eq_getElem?_getD, List.getD_eq_getElem?_getD]
    rcases Nat.lt_or_ge (j - 4) bs.length with q | q
    · rw [List.getElem?_append_left q]
    · rw [List.getElem?_eq_none q, List.getElem?_eq_none (by simp; omega)]
theorem bpi_cnt {d n L v : Nat} {bs : List Nat} (hn : n < 255) (hL : L + v < 256) : upN (upN (upN (bpi d n L bs) 1 ((bpi d n L bs 1 + 1) % 256)) 2 ((bpi d n L bs 2 * 256 + bpi d n L bs 3 + v) / 256 % 256)) 3 ((bpi d n L bs 2 * 256 + bpi d n L bs 3 + v) % 256 % 256) = bpi d (n + 1) (L + v) bs := by
  have e1 : bpi d n L bs 1 = n := rfl
  have e2 : bpi d n L bs 2 = L / 256 := rfl
  have e3 : bpi d n L bs 3 = L % 256 := rfl
  rw [e1, e2, e3]
  have e4 : L / 256 * 256 + L % 256 = L := by omega
  rw [e4]
  funext j
  unfold upN bpi
  by_cases h3 : j = 3
  · rw [if_pos h3, if_neg (by omega), if_neg (by omega), if_neg (by omega), if_pos h3]; omega
  rw [if_neg h3]
  by_cases h2 : j = 2
  · rw [if_pos h2, if_neg (by omega), if_neg (by omega), if_pos h2]; omega
  rw [if_neg h2]
  by_cases h1 : j = 1
  · rw [if_pos h1, if_neg (by omega), if_pos h1]; omega
  rw [if_neg h1]
  by_cases h0 : j = 0
  · rw [if_pos h0, if_pos h0]
  · rw [if_neg h0, if_neg h1, if_neg h2, if_neg h3, if_neg h0, if_neg h1, if_neg h2, if_neg h3]
theorem bpg_add (d : Nat) (rs : List (List Nat)) (r : List Nat) : bpi d (rs.length + 1) (rs.flatten.length + r.length) (rs.flatten ++ r) = bpg d (rs ++ [r]) := by
  unfold bpg
  rw [List.flatten_append, List.length_append, List.length_append]
  simp
theorem range_snoc {α : Type} (g : Nat → α) (n : Nat) : (List.range (n + 1)).map g = (List.range n).map g ++ [g n] := by
  rw [List.range_succ, List.map_append]
  rfl
/-- the bytes of the record at s in page p -/
def recL (C : Nat → Nat) (p s : Nat) : List Nat := (List.range (rsz C p s)).map (fun j => pb C p (s + j))
theorem recL_len (C : Nat → Nat) (p s : Nat) : (recL C p s).length = rsz C p s := by simp [recL]
/-- the record of a tape -/
def tapL (T : Nat → Nat) (ks z : Nat) : List Nat := ks :: (z - ks) :: (List.range z).map T
theorem tapL_len (T : Nat → Nat) (ks z : Nat) : (tapL T ks z).length = 2 + z := by simp [tapL]; omega
set_option maxHeartbeats 1000000 in
set_option maxRecDepth 20000 in
theorem lp_X2_copyRecord {D : va_G} {cI cB cJ cZ : ClassId} {x : Kx} {hd hc hk : Nat} {ko : Int} {pg lg : Nat} {wt al dn : Int} {C : Nat → Nat} {hp hb : Nat} {P S : Int} {p s d : Nat} {rs : List (List Nat)} (k : Kf x cX2_copyRecord 7 yX2_copyRecord.cls none D (TY cI cB cJ cZ) ({ frames := 2, cells := 0, slots := 0, locals := 44 })) (hq : isU x D [hp, hb, hd, hc] (fun r w1 => r = none ∧ w1 = [oPage hp hb, aN cI hb 256 (bpg d (rs ++ [recL C p s])), oDisk hd hc hk ko pg lg wt al dn, aN cI hc 65280 C])) (hP : P = (p : Int)) (hS : S = (s : Int)) (hp9 : p < pg) (hg : pg ≤ 255) (hC : ∀ j, C j < 256) (hs : s + rsz C p s ≤ 256) (hn : rs.length < 255) (hL : rs.flatten.length + rsz C p s ≤ 252) : ∀ (m : Nat) (i : Nat) (I E : Int), rsz C p s < i + m → i ≤ rsz C p s → I = (i : Int) → E = ((4 + rs.flatten.length : Nat) : Int) → Vw x 7 (fun q => q ∈ [hp, hb, hd, hc]) D true 0 0 [oPage hp hb, aN cI hb 256 (bpi d (rs.length + 1) (rs.flatten.length + rsz C p s) (rs.flatten ++ (List.range i).map (fun j => pb C p (s + j)))), oDisk hd hc hk ko pg lg wt al dn, aN cI hc 65280 C] 19 [(0, .ref hp), (1, .ref hd), (2, .int (iI P)), (3, .int (iI S)), (4, .int (iI ((rsz C p s : Nat) : Int))), (5, .int (iI E)), (6, .int (iI I))] [] := by
  intro m
  induction m with
  | zero => intro i I E hm hi e1 e2; omega
  | succ m ih =>
    intro i I E hm hi e1 e2
    have hz9 := rsz_ge C p s
    refine v_iload (n := 21) k dX2_copyRecord_19 rfl rfl ?_
    refine v_iload (n := 23) k dX2_copyRecord_21 rfl rfl ?_
    refine v_icmp_ge (n := 26) (t := 50) k (⟨by omega, by omega⟩) (⟨by omega, by omega⟩) dX2_copyRecord_23 (by decide) rfl (fun c_23 => ?_) (fun c_23 => ?_)
    · have e9 : i = rsz C p s := by omega
      subst e9
      refine v_vretU k hq ?_ rfl dX2_copyRecord_50
      refine ⟨rfl, ?_⟩
      have e8 := bpg_add d rs (recL C p s)
      rw [recL_len] at e8
      rw [← e8]
      try rfl
    · refine v_aload_n (n := 27) k dX2_copyRecord_26 rfl rfl ?_
      refine v_iload (n := 29) k dX2_copyRecord_27 rfl rfl ?_
      refine v_iload (n := 31) k dX2_copyRecord_29 rfl rfl ?_
      refine v_iadd (n := 32) k dX2_copyRecord_31 rfl ?_
      refine v_aload_n (n := 33) k dX2_copyRecord_32 rfl rfl ?_
      refine v_iload_n (n := 34) k dX2_copyRecord_33 rfl rfl ?_
      refine v_iload_n (n := 35) k dX2_copyRecord_34 rfl rfl ?_
      refine v_iload (n := 37) k dX2_copyRecord_35 rfl rfl ?_
      refine v_iadd (n := 38) k dX2_copyRecord_37 rfl ?_
      refine v_rdVi (n := 41) k [2, 3] 2 (z_X1_at (p := p) (i := s + i) hP (by omega) hp9 (by omega) hg) miX1_at ml_X2_38 (by decide) (by decide) rfl (by decide) rfl rfl rfl rfl (Nat.le_of_ble_eq_true rfl) ⟨Nat.zero_le _, Nat.zero_le _⟩ dX2_copyRecord_38 rfl ?_
      refine v_upV (n := 44) k [0, 1] 0 (z_X2_set (i := 4 + (rs.flatten.length + i)) (v := pb C p (s + i)) (by omega) rfl (by omega)) miX2_set ml_X2_24 (by decide) (by decide) rfl (by decide) rfl rfl rfl rfl (Nat.le_of_ble_eq_true rfl) ⟨Nat.zero_le _, Nat.zero_le _⟩ dX2_copyRecord_41 rfl ?_
      rw [bpi_set (bs := rs.flatten ++ (List.range i).map (fun j => pb C p (s + j))) (b := pb C p (s + i)) (by simp) (hC _), List.append_assoc, ← range_snoc (fun j => pb C p (s + j)) i]
      rintro _ _ ⟨rfl, rfl⟩
      dsimp only [wput, List.set, Option.toList, List.nil_append, List.cons_append]
      refine v_iinc (n := 47) k dX2_copyRecord_44 rfl (by decide) rfl rfl rfl ?_
      refine v_goto (t := 19) k dX2_copyRecord_47 (by decide) ?_
      exact ih (i + 1) _ _ (by omega) (by omega) (by omega) e2
set_option maxHeartbeats 1000000 in
set_option maxRecDepth 20000 in
theorem z_X2_copyRecord {D : va_G} {cI cB cJ cZ : ClassId} {hd hc hk : Nat} {ko : Int} {pg lg : Nat} {wt al dn : Int} {C : Nat → Nat} {hp hb : Nat} {P S : Int} {p s d : Nat} {rs : List (List Nat)} (hP : P = (p : Int)) (hS : S = (s : Int)) (hp9 : p < pg) (hg : pg ≤ 255) (hC : ∀ j, C j < 256) (hs : s + rsz C p s ≤ 256) (hn : rs.length < 255) (hL : rs.flatten.length + rsz C p s ≤ 252) : ∀ l, Up l yX2_copyRecord cX2_copyRecord 7 none ({ frames := 2, cells := 0, slots := 0, locals := 44 }) D (TY cI cB cJ cZ) [.ref hp, .ref hd, .int (iI P), .int (iI S)] [oPage hp hb, aN cI hb 256 (bpg d rs), oDisk hd hc hk ko pg lg wt al dn, aN cI hc 65280 C] (fun r w1 => r = none ∧ w1 = [oPage hp hb, aN cI hb 256 (bpg d (rs ++ [recL C p s])), oDisk hd hc hk ko pg lg wt al dn, aN cI hc 65280 C]) := by
  intro l
  refine Up_of (by decide) (Nat.le_of_ble_eq_true rfl) (fun x k hq => ?_)
  have hz9 := rsz_ge C p s
  refine v_aload_n (n := 1) k dX2_copyRecord_0 rfl rfl ?_
  refine v_iload_n (n := 2) k dX2_copyRecord_1 rfl rfl ?_
  refine v_iload_n (n := 3) k dX2_copyRecord_2 rfl rfl ?_
  refine v_rdVi (n := 6) k [2, 3] 2 (z_X1_recordSize (p := p) (s := s) hP hp9 hg hS (by omega)) miX1_recordSize ml_X2_28 (by decide) (by decide) rfl (by decide) rfl rfl rfl rfl (Nat.le_of_ble_eq_true rfl) ⟨Nat.zero_le _, Nat.zero_le _⟩ dX2_copyRecord_3 rfl ?_
  refine v_istore (n := 8) k dX2_copyRecord_6 rfl (by decide) rfl rfl ?_
  refine v_aload_n (n := 9) k dX2_copyRecord_8 rfl rfl ?_
  refine v_iload (n := 11) k dX2_copyRecord_9 rfl rfl ?_
  refine v_upV (n := 14) k [0, 1] 0 (z_X2_countRecord (f := bpg d rs) (v := rsz C p s) rfl (show rs.flatten.length / 256 < 256 by omega) (show rs.flatten.length % 256 < 256 by omega) (show rs.length < 256 by omega) (by omega)) miX2_countRecord ml_X2_34 (by decide) (by decide) rfl (by decide) rfl rfl rfl rfl (Nat.le_of_ble_eq_true rfl) ⟨Nat.zero_le _, Nat.zero_le _⟩ dX2_copyRecord_11 rfl ?_
  rw [show bpg d rs = bpi d rs.length rs.flatten.length rs.flatten from rfl, bpi_cnt hn (by omega)]
  rintro _ _ ⟨rfl, rfl⟩
  dsimp only [wput, List.set, Option.toList, List.nil_append, List.cons_append]
  refine v_istore (n := 16) k dX2_copyRecord_14 rfl (by decide) rfl rfl ?_
  refine v_iconst (n := 17) k dX2_copyRecord_16 rfl ?_
  refine v_istore (n := 19) k dX2_copyRecord_17 rfl (by decide) rfl rfl ?_
  have h0 := lp_X2_copyRecord (d := d) (rs := rs) k hq hP hS hp9 hg hC hs hn hL (rsz C p s + 1) 0 0 (((4 + (bpi d rs.length rs.flatten.length rs.flatten 2 * 256 + bpi d rs.length rs.flatten.length rs.flatten 3) : Nat) : Int)) (by omega) (by omega) rfl (by
    show ((4 + (rs.flatten.length / 256 * 256 + rs.flatten.length % 256) : Nat) : Int) = _
    omega)
  rw [show (List.range 0).map (fun j => pb C p (s + j)) = [] from rfl, List.append_nil] at h0
  exact h0
set_option maxHeartbeats 1000000 in
set_option maxRecDepth 20000 in
theorem lp_X2_addRecord {D : va_G} {cI cB cJ cZ : ClassId} {x : Kx} {hp hb ht hx : Nat} {sz : Int} {T : Nat → Nat} {KK Z : Int} {ks z d : Nat} {rs : List (List Nat)} (k : Kf x cX2_addRecord 6 yX2_addRecord.cls none D (TY cI cB cJ cZ) ({ frames := 2, cells := 0, slots := 0, locals := 44 })) (hq : isU x D [hp, hb, ht, hx] (fun r w1 => r = none ∧ w1 = [oPage hp hb, aN cI hb 256 (bpg d (rs ++ [tapL T ks z])), oTape ht hx sz, aN cI hx 48 T])) (hK : KK = (ks : Int)) (hZ : Z = (z : Int)) (hks : ks ≤ z) (hz : z ≤ 48) (hT : ∀ j, T j < 256) (hn : rs.length < 255) (hL : rs.flatten.length + (2 + z) ≤ 252) : ∀ (m : Nat) (i : Nat) (I E : Int), z < i + m → i ≤ z → I = (i : Int) → E = ((4 + rs.flatten.length : Nat) : Int) → Vw x 6 (fun q => q ∈ [hp, hb, ht, hx]) D true 0 0 [oPage hp hb, aN cI hb 256 (bpi d (rs.length + 1) (rs.flatten.length + (2 + z)) (rs.flatten ++ [ks] ++ [z - ks] ++ (List.range i).map T)), oTape ht hx sz, aN cI hx 48 T] 30 [(0, .ref hp), (1, .ref ht), (2, .int (iI KK)), (3, .int (iI Z)), (4, .int (iI E)), (5, .int (iI I))] [] := by
  intro m
  induction m with
  | zero => intro i I E hm hi e1 e2; omega
  | succ m ih =>
    intro i I E hm hi e1 e2
    refine v_iload (n := 32) k dX2_addRecord_30 rfl rfl ?_
    refine v_iload_n (n := 33) k dX2_addRecord_32 rfl rfl ?_
    refine v_icmp_ge (n := 36) (t := 59) k (⟨by omega, by omega⟩) (⟨by omega, by omega⟩) dX2_addRecord_33 (by decide) rfl (fun c_33 => ?_) (fun c_33 => ?_)
    · have e9 : i = z := by omega
      subst e9
      refine v_vretU k hq ?_ rfl dX2_addRecord_59
      refine ⟨rfl, ?_⟩
      have e8 := bpg_add d rs (tapL T ks i)
      rw [tapL_len] at e8
      rw [← e8]
      rw [show rs.flatten ++ tapL T ks i = rs.flatten ++ [ks] ++ [i - ks] ++ (List.range i).map T by simp [tapL]]
      try rfl
    · refine v_aload_n (n := 37) k dX2_addRecord_36 rfl rfl ?_
      refine v_iload (n := 39) k dX2_addRecord_37 rfl rfl ?_
      refine v_iconst (n := 40) k dX2_addRecord_39 rfl ?_
      refine v_iadd (n := 41) k dX2_addRecord_40 rfl ?_
      refine v_iload (n := 43) k dX2_addRecord_41 rfl rfl ?_
      refine v_iadd (n := 44) k dX2_addRecord_43 rfl ?_
      refine v_aload_n (n := 45) k dX2_addRecord_44 rfl rfl ?_
      refine v_iload (n := 47) k dX2_addRecord_45 rfl rfl ?_
      refine v_rdVi (n := 50) k [2, 3] 2 (z_X3_byteAt (i := i) e1 (by omega)) miX3_byteAt ml_X2_41 (by decide) (by decide) rfl (by decide) rfl rfl rfl rfl (Nat.le_of_ble_eq_true rfl) ⟨Nat.zero_le _, Nat.zero_le _⟩ dX2_addRecord_47 rfl ?_
      refine v_upV (n := 53) k [0, 1] 0 (z_X2_set (i := 4 + (rs.flatten.length + 2 + i)) (v := T i) (by omega) rfl (by omega)) miX2_set ml_X2_24 (by decide) (by decide) rfl (by decide) rfl rfl rfl rfl (Nat.le_of_ble_eq_true rfl) ⟨Nat.zero_le _, Nat.zero_le _⟩ dX2_addRecord_50 rfl ?_
      rw [bpi_set (by simp; omega) (hT _), List.append_assoc _ ((List.range i).map T), ← range_snoc T i]
      rintro _ _ ⟨rfl, rfl⟩
      dsimp only [wput, List.set, Option.toList, List.nil_append, List.cons_append]
      refine v_iinc (n := 56) k dX2_addRecord_53 rfl (by decide) rfl rfl rfl ?_
      refine v_goto (t := 30) k dX2_addRecord_56 (by decide) ?_
      exact ih (i + 1) _ _ (by omega) (by omega) (by omega) e2
set_option maxHeartbeats 1000000 in
set_option maxRecDepth 20000 in
theorem z_X2_addRecord {D : va_G} {cI cB cJ cZ : ClassId} {hp hb ht hx : Nat} {sz : Int} {T : Nat → Nat} {KK Z : Int} {ks z d : Nat} {rs : List (List Nat)} (hK : KK = (ks : Int)) (hZ : Z = (z : Int)) (hks : ks ≤ z) (hz : z ≤ 48) (hT : ∀ j, T j < 256) (hn : rs.length < 255) (hL : rs.flatten.length + (2 + z) ≤ 252) : ∀ l, Up l yX2_addRecord cX2_addRecord 6 none ({ frames := 2, cells := 0, slots := 0, locals := 44 }) D (TY cI cB cJ cZ) [.ref hp, .ref ht, .int (iI KK), .int (iI Z)] [oPage hp hb, aN cI hb 256 (bpg d rs), oTape ht hx sz, aN cI hx 48 T] (fun r w1 => r = none ∧ w1 = [oPage hp hb, aN cI hb 256 (bpg d (rs ++ [tapL T ks z])), oTape ht hx sz, aN cI hx 48 T]) := by
  intro l
  refine Up_of (by decide) (Nat.le_of_ble_eq_true rfl) (fun x k hq => ?_)
  refine v_aload_n (n := 1) k dX2_addRecord_0 rfl rfl ?_
  refine v_iconst (n := 2) k dX2_addRecord_1 rfl ?_
  refine v_iload_n (n := 3) k dX2_addRecord_2 rfl rfl ?_
  refine v_iadd (n := 4) k dX2_addRecord_3 rfl ?_
  refine v_upV (n := 7) k [0, 1] 0 (z_X2_countRecord (f := bpg d rs) (v := 2 + z) (by omega) (show rs.flatten.length / 256 < 256 by omega) (show rs.flatten.length % 256 < 256 by omega) (show rs.length < 256 by omega) (by omega)) miX2_countRecord ml_X2_34 (by decide) (by decide) rfl (by decide) rfl rfl rfl rfl (Nat.le_of_ble_eq_true rfl) ⟨Nat.zero_le _, Nat.zero_le _⟩ dX2_addRecord_4 rfl ?_
  rw [show bpg d rs = bpi d rs.length rs.flatten.length rs.flatten from rfl, bpi_cnt hn (by omega)]
  rintro _ _ ⟨rfl, rfl⟩
  dsimp only [wput, List.set, Option.toList, List.nil_append, List.cons_append]
  refine v_istore (n := 9) k dX2_addRecord_7 rfl (by decide) rfl rfl ?_
  refine v_aload_n (n := 10) k dX2_addRecord_9 rfl rfl ?_
  refine v_iload (n := 12) k dX2_addRecord_10 rfl rfl ?_
  refine v_iload_n (n := 13) k dX2_addRecord_12 rfl rfl ?_
  refine v_upV (n := 16) k [0, 1] 0 (z_X2_set (i := 4 + rs.flatten.length) (v := ks) (by show ((4 + (rs.flatten.length / 256 * 256 + rs.flatten.length % 256) : Nat) : Int) = _; omega) hK (by omega)) miX2_set ml_X2_24 (by decide) (by decide) rfl (by decide) rfl rfl rfl rfl (Nat.le_of_ble_eq_true rfl) ⟨Nat.zero_le _, Nat.zero_le _⟩ dX2_addRecord_13 rfl ?_
  rw [bpi_set rfl (by omega)]
  rintro _ _ ⟨rfl, rfl⟩
  dsimp only [wput, List.set, Option.toList, List.nil_append, List.cons_append]
  refine v_aload_n (n := 17) k dX2_addRecord_16 rfl rfl ?_
  refine v_iload (n := 19) k dX2_addRecord_17 rfl rfl ?_
  refine v_iconst (n := 20) k dX2_addRecord_19 rfl ?_
  refine v_iadd (n := 21) k dX2_addRecord_20 rfl ?_
  refine v_iload_n (n := 22) k dX2_addRecord_21 rfl rfl ?_
  refine v_iload_n (n := 23) k dX2_addRecord_22 rfl rfl ?_
  refine v_isub (n := 24) k dX2_addRecord_23 rfl ?_
  refine v_upV (n := 27) k [0, 1] 0 (z_X2_set (i := 4 + (rs.flatten.length + 1)) (v := z - ks) (by show ((4 + (rs.flatten.length / 256 * 256 + rs.flatten.length % 256) : Nat) : Int) + 1 = _; omega) (by omega) (by omega)) miX2_set ml_X2_24 (by decide) (by decide) rfl (by decide) rfl rfl rfl rfl (Nat.le_of_ble_eq_true rfl) ⟨Nat.zero_le _, Nat.zero_le _⟩ dX2_addRecord_24 rfl ?_
  rw [bpi_set (by simp) (by omega)]
  rintro _ _ ⟨rfl, rfl⟩
  dsimp only [wput, List.set, Option.toList, List.nil_append, List.cons_append]
  refine v_iconst (n := 28) k dX2_addRecord_27 rfl ?_
  refine v_istore (n := 30) k dX2_addRecord_28 rfl (by decide) rfl rfl ?_
  have h0 := lp_X2_addRecord (d := d) (rs := rs) k hq hK hZ hks hz hT hn hL (z + 1) 0 0 (((4 + (bpi d rs.length rs.flatten.length rs.flatten 2 * 256 + bpi d rs.length rs.flatten.length rs.flatten 3) : Nat) : Int)) (by omega) (by omega) rfl (by
    show ((4 + (rs.flatten.length / 256 * 256 + rs.flatten.length % 256) : Nat) : Int) = _
    omega)
  rw [show (List.range 0).map T = [] from rfl, List.append_nil] at h0
  exact h0
