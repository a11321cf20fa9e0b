theorem rst_lt {C : Nat → Nat} {p a b : Nat} (h : a < b) : rst C p a < rst C p b := by
  have h1 : rst C p (a + 1) ≤ rst C p b := rst_mono h
  have e : rst C p (a + 1) = rst C p a + rsz C p (rst C p a) := rfl
  have e2 := rsz_ge C p (rst C p a)
  omega
theorem rst_inj {C : Nat → Nat} {p a b : Nat} (h : rst C p a = rst C p b) : a = b := by
  rcases Nat.lt_trichotomy a b with g | g | g
  · have := rst_lt (C := C) (p := p) g
    omega
  · exact g
  · have := rst_lt (C := C) (p := p) g
    omega
theorem recS_one {C : Nat → Nat} {p r0 : Nat} {sel : Nat → Bool} (hs : ∀ r, sel r = !(r == r0)) (n : Nat) : (recS C p sel n).flatten.length + (if r0 < n then rsz C p (rst C p r0) else 0) + 4 = rst C p n := by
  induction n with
  | zero => simp [recS, rst]
  | succ n ih =>
    have e : rst C p (n + 1) = rst C p n + rsz C p (rst C p n) := rfl
    have e3 : [recL C p (rst C p n)].flatten.length = rsz C p (rst C p n) := by simp [recL_len]
    by_cases h : n = r0
    · subst h
      rw [recS_f (by rw [hs]; simp), if_pos (by omega)]
      rw [if_neg (by omega)] at ih
      omega
    · rw [recS_t (by rw [hs]; simp [h]), List.flatten_append, List.length_append]
      by_cases g : r0 < n
      · rw [if_pos (by omega)]
        rw [if_pos g] at ih
        omega
      · rw [if_neg (by omega)]
        rw [if_neg g] at ih
        omega
theorem recS_all {C : Nat → Nat} {p : Nat} {sel : Nat → Bool} (hs : ∀ r, sel r = true) (n : Nat) : (recS C p sel n).flatten.length + 4 = rst C p n := by
  induction n with
  | zero => simp [recS, rst]
  | succ n ih =>
    have e : rst C p (n + 1) = rst C p n + rsz C p (rst C p n) := rfl
    have e3 : [recL C p (rst C p n)].flatten.length = rsz C p (rst C p n) := by simp [recL_len]
    rw [recS_t (hs n), List.flatten_append, List.length_append]
    omega
theorem notAt_some {C : Nat → Nat} {p r0 : Nat} {old : Int} (h : old = ((rst C p r0 : Nat) : Int)) (r : Nat) : notAt C p old r = !(r == r0) := by
  unfold notAt
  subst h
  by_cases e : r = r0
  · subst e
    simp
  · have : rst C p r ≠ rst C p r0 := fun e2 => e (rst_inj e2)
    have h1 : (r == r0) = false := beq_false_of_ne e
    rw [h1]
    exact decide_eq_true (by omega)
theorem notAt_none {C : Nat → Nat} {p : Nat} {old : Int} (h : old < 0) (r : Nat) : notAt C p old r = true := decide_eq_true (by omega)
theorem fndI_in {C : Nat → Nat} {p : Nat} {T : Nat → Nat} {ks : Nat} (h : WB C p) : in32 (fndI C p T ks) := by
  unfold fndI
  cases hf : fnd C p T ks with
  | some r =>
    have h1 := h.fit (fnd_lt hf)
    show in32 ((rst C p r : Nat) : Int)
    exact ⟨by omega, by omega⟩
  | none =>
    show in32 (-1)
    exact ⟨by omega, by omega⟩
/-- how many bytes are left without the record of the key -/
theorem but_len {C : Nat → Nat} {p : Nat} {T : Nat → Nat} {ks : Nat} (h : WB C p) : (recS C p (notAt C p (fndI C p T ks)) (pb C p 1)).flatten.length = bL C p - less C p T ks := by
  have h2 := h.2.1
  unfold less
  cases hf : fnd C p T ks with
  | some r =>
    have hr := fnd_lt hf
    have e : fndI C p T ks = ((rst C p r : Nat) : Int) := by unfold fndI; rw [hf]
    have h3 := recS_one (C := C) (p := p) (r0 := r) (sel := notAt C p (fndI C p T ks)) (notAt_some e) (pb C p 1)
    rw [if_pos hr] at h3
    show _ = bL C p - rsz C p (rst C p r)
    omega
  | none =>
    have e : fndI C p T ks = -1 := by unfold fndI; rw [hf]
    have h3 := recS_all (C := C) (p := p) (sel := notAt C p (fndI C p T ks)) (notAt_none (by rw [e]; omega)) (pb C p 1)
    show _ = bL C p - 0
    omega
/-- the page of a bucket into which the tape's record is put -/
def newB (C : Nat → Nat) (p : Nat) (T : Nat → Nat) (ks z : Nat) : Nat → Nat := bpg (pb C p 0) (recS C p (notAt C p (fndI C p T ks)) (pb C p 1) ++ [tapL T ks z])
set_option maxHeartbeats 1000000 in
set_option maxRecDepth 20000 in
theorem z_X4_storeRecord {D : va_G} {cI cB cJ cZ : ClassId} {hx hd hc hk hch hb hbb hh ht ha : Nat} {an : Int} {ko : Int} {pg lg : Nat} {wt al dn : Int} {C : Nat → Nat} {K : Nat → Nat} {htb : Nat} {sz : Int} {T : Nat → Nat} {f : Nat → Nat} {P KK Z : Int} {p ks z : Nat} (hP : P = (p : Int)) (hp : p < pg) (hg : pg ≤ 255) (hw9 : WB C p) (hC : ∀ j, C j < 256) (hK : KK = (ks : Int)) (hks9 : ks ≤ z) (hZ : Z = (z : Int)) (hz : z ≤ 48) (hT : ∀ j, T j < 256) (hpl : plc C p T ks z = true) (ha9 : in32 al) (hks : KS ko K C pg lg) : ∀ l, Up l yX4_storeRecord cX4_storeRecord 4 (some .int) ({ frames := 5, cells := 0, slots := 0, locals := 117 }) D (TY cI cB cJ cZ) [.ref hx, .int (iI P), .int (iI KK), .int (iI Z)] [oHash hx hd hch hb hh ht ha an, oDisk hd hc hk ko pg lg wt al dn, aN cI hc 65280 C, aN cI hk 255 K, oPage hb hbb, aN cI hbb 256 (f), oTape ht htb sz, aN cI htb 48 T] (fun r w1 => ∃ b C2 wt2 al2 dn2 ko2 f2, sW (C, wt, al, dn) p (newB C p T ks z) = (b, C2, wt2, al2, dn2) ∧ KS ko2 K C2 pg lg ∧ in32 al2 ∧ r = some (.int (iI (if b then 0 else 4))) ∧ w1 = [oHash hx hd hch hb hh ht ha an, oDisk hd hc hk ko2 pg lg wt2 al2 dn2, aN cI hc 65280 C2, aN cI hk 255 K, oPage hb hbb, aN cI hbb 256 (f2), oTape ht htb sz, aN cI htb 48 T]) := by
  intro l
  refine Up_of (by decide) (Nat.le_of_ble_eq_true rfl) (fun x k hq => ?_)
  have hcn := hw9.count
  have hwl := hw9.2.2
  have hpl2 := of_decide_eq_true hpl
  have hbl := but_len (T := T) (ks := ks) hw9
  have hrl := recS_len C p (notAt C p (fndI C p T ks)) (pb C p 1)
  refine v_aload_n (n := 1) k dX4_storeRecord_0 rfl rfl ?_
  refine v_iload_n (n := 2) k dX4_storeRecord_1 rfl rfl ?_
  refine v_aload_n (n := 3) k dX4_storeRecord_2 rfl rfl ?_
  refine v_get (n := 6) k ciX4 0 0 (by decide) fl_X4_10 rfl rfl dX4_storeRecord_3 rfl ?_
  refine v_iload_n (n := 7) k dX4_storeRecord_6 rfl rfl ?_
  refine v_aload_n (n := 8) k dX4_storeRecord_7 rfl rfl ?_
  refine v_get (n := 11) k ciX4 0 4 (by decide) fl_X4_38 rfl rfl dX4_storeRecord_8 rfl ?_
  refine v_iload_n (n := 12) k dX4_storeRecord_11 rfl rfl ?_
  refine v_rdVi (n := 15) k [1, 2, 6, 7] 1 (z_X1_find (p := p) (z := ks) hP hp hg hK (by omega) hw9 hC hT) miX1_find ml_X4_112 (by decide) (by decide) rfl (by decide) rfl rfl rfl rfl (Nat.le_of_ble_eq_true rfl) ⟨Nat.zero_le _, Nat.zero_le _⟩ dX4_storeRecord_12 rfl ?_
  refine v_upV (n := 18) k [0, 1, 2, 4, 5] 0 (z_X4_buildWithout (p := p) hP hp hg hw9 hC (fndI_in hw9)) miX4_buildWithout ml_X4_116 (by decide) (by decide) rfl (by decide) rfl rfl rfl rfl (Nat.le_of_ble_eq_true rfl) ⟨Nat.zero_le _, Nat.zero_le _⟩ dX4_storeRecord_15 rfl ?_
  rintro _ _ ⟨rfl, rfl⟩
  dsimp only [wput, List.set, Option.toList, List.nil_append, List.cons_append]
  refine v_aload_n (n := 19) k dX4_storeRecord_18 rfl rfl ?_
  refine v_get (n := 22) k ciX4 0 2 (by decide) fl_X4_28 rfl rfl dX4_storeRecord_19 rfl ?_
  refine v_aload_n (n := 23) k dX4_storeRecord_22 rfl rfl ?_
  refine v_get (n := 26) k ciX4 0 4 (by decide) fl_X4_38 rfl rfl dX4_storeRecord_23 rfl ?_
  refine v_iload_n (n := 27) k dX4_storeRecord_26 rfl rfl ?_
  refine v_iload_n (n := 28) k dX4_storeRecord_27 rfl rfl ?_
  refine v_upV (n := 31) k [4, 5, 6, 7] 4 (z_X2_addRecord (ks := ks) (z := z) (d := pb C p 0) (rs := recS C p (notAt C p (fndI C p T ks)) (pb C p 1)) hK hZ hks9 hz hT (by omega) (by omega)) miX2_addRecord ml_X4_192 (by decide) (by decide) rfl (by decide) rfl rfl rfl rfl (Nat.le_of_ble_eq_true rfl) ⟨Nat.zero_le _, Nat.zero_le _⟩ dX4_storeRecord_28 rfl ?_
  rintro _ _ ⟨rfl, rfl⟩
  dsimp only [wput, List.set, Option.toList, List.nil_append, List.cons_append]
  refine v_aload_n (n := 32) k dX4_storeRecord_31 rfl rfl ?_
  refine v_get (n := 35) k ciX4 0 0 (by decide) fl_X4_10 rfl rfl dX4_storeRecord_32 rfl ?_
  refine v_iload_n (n := 36) k dX4_storeRecord_35 rfl rfl ?_
  refine v_aload_n (n := 37) k dX4_storeRecord_36 rfl rfl ?_
  refine v_get (n := 40) k ciX4 0 2 (by decide) fl_X4_28 rfl rfl dX4_storeRecord_37 rfl ?_
  refine v_upV (n := 43) k [1, 2, 3, 4, 5] 1 (z_X1_writeS (p := p) hP hp hg ha9 hks) miX1_write ml_X4_120 (by decide) (by decide) rfl (by decide) rfl rfl rfl rfl (Nat.le_of_ble_eq_true rfl) ⟨Nat.zero_le _, Nat.zero_le _⟩ dX4_storeRecord_40 rfl ?_
  rintro _ _ ⟨b1, C2, wt2, al2, dn2, ko2, hs1, hks1, hal1, rfl, rfl⟩
  dsimp only [wput, List.set, Option.toList, List.nil_append, List.cons_append]
  refine v_if_eq (n := 46) (t := 50) k (⟨by cases b1 <;> decide, by cases b1 <;> decide⟩) dX4_storeRecord_43 (by decide) rfl (fun c_43 => ?_) (fun c_43 => ?_)
  · refine v_iconst (n := 51) k dX4_storeRecord_50 rfl ?_
    refine v_iretU k hq ?_ rfl dX4_storeRecord_51
    first
    | (have hb9 : b1 = true := by
        cases b1 with
        | true => rfl
        | false => exact absurd rfl c_43
       subst hb9
       exact ⟨true, C2, wt2, al2, dn2, ko2, _, hs1, hks1, hal1, rfl, rfl⟩)
    | (have hb9 : b1 = false := by
        cases b1 with
        | false => rfl
        | true => exact absurd c_43 (by decide)
       subst hb9
       exact ⟨false, C2, wt2, al2, dn2, ko2, _, hs1, hks1, hal1, rfl, rfl⟩)
  · refine v_iconst (n := 47) k dX4_storeRecord_46 rfl ?_
    refine v_goto (t := 51) k dX4_storeRecord_47 (by decide) ?_
    refine v_iretU k hq ?_ rfl dX4_storeRecord_51
    first
    | (have hb9 : b1 = true := by
        cases b1 with
        | true => rfl
        | false => exact absurd rfl c_43
       subst hb9
       exact ⟨true, C2, wt2, al2, dn2, ko2, _, hs1, hks1, hal1, rfl, rfl⟩)
    | (have hb9 : b1 = false := by
        cases b1 with
        | false => rfl
        | true => exact absurd c_43 (by decide)
       subst hb9
       exact ⟨false, C2, wt2, al2, dn2, ko2, _, hs1, hks1, hal1, rfl, rfl⟩)
/-- entry i of a directory of depth q, twice or half of that of now -/
def eN (C : Nat → Nat) (q i : Nat) : Nat := entN C (if C 0 < q then i / 2 else 2 * i)
def dpi (C : Nat → Nat) (q kk n : Nat) : Nat → Nat := fun j => if j < n ∧ kk * 256 + j < 2 ^ q then eN C q (kk * 256 + j) else 0
/-- page kk of a directory of depth q -/
def dpg (C : Nat → Nat) (q kk : Nat) : Nat → Nat := dpi C q kk 256
theorem dpi_0 (C : Nat → Nat) (q kk : Nat) : (fun _ => 0 : Nat → Nat) = dpi C q kk 0 := by
  funext j
  unfold dpi
  rw [if_neg (by omega)]
theorem dpi_s {C : Nat → Nat} {q kk n : Nat} (h : kk * 256 + n < 2 ^ q) (hC : ∀ j, C j < 256) : upN (dpi C q kk n) n (eN C q (kk * 256 + n) % 256) = dpi C q kk (n + 1) := by
  funext j
  unfold upN dpi
  by_cases e : j = n
  · subst e
    rw [if_pos rfl, if_pos ⟨by omega, h⟩, Nat.mod_eq_of_lt (show eN C q (kk * 256 + j) < 256 from hC _)]
  · rw [if_neg e]
    by_cases g : j < n ∧ kk * 256 + j < 2 ^ q
    · rw [if_pos g, if_pos ⟨by omega, g.2⟩]
    · rw [if_neg g, if_neg (by omega)]
set_option maxHeartbeats 1000000 in
set_option maxRecDepth 20000 in
theorem lp_X4_buildDirectoryPage {D : va_G} {cI cB cJ cZ : ClassId} {x : Kx} {hx hd hc hk hch hb hbb hh ht ha : Nat} {an : Int} {ko : Int} {pg lg : Nat} {wt al dn : Int} {C : Nat → Nat} {KI QI : Int} {kk q : Nat} (k : Kf x cX4_buildDirectoryPage 8 yX4_buildDirectoryPage.cls none D (TY cI cB cJ cZ) ({ frames := 3, cells := 0, slots := 0, locals := 64 })) (hq : isU x D [hx, hd, hc, hb, hbb] (fun r w1 => r = none ∧ w1 = [oHash hx hd hch hb hh ht ha an, oDisk hd hc hk ko pg lg wt al dn, aN cI hc 65280 C, oPage hb hbb, aN cI hbb 256 (dpg C q kk)])) (hw : DW C pg lg) (hKI : KI = (kk : Int)) (hQI : QI = (q : Int)) (hq9 : q = C 0 + 1 ∨ q + 1 = C 0) (hq15 : q ≤ 15) (hkk : kk ≤ 256) : ∀ (m : Nat) (j : Nat) (J : Int), 256 < j + m → j ≤ 256 → J = (j : Int) → Vw x 8 (fun q => q ∈ [hx, hd, hc, hb, hbb]) D true 0 0 [oHash hx hd hch hb hh ht ha an, oDisk hd hc hk ko pg lg wt al dn, aN cI hc 65280 C, oPage hb hbb, aN cI hbb 256 (dpi C q kk j)] 39 [(0, .ref hx), (1, .int (iI KI)), (2, .int (iI QI)), (3, .int (iI (bI (decide (C 0 < q))))), (4, .int (iI ((kk * 256 : Nat) : Int))), (5, .int (iI ((2 ^ q : Nat) : Int))), (6, .int (iI J))] [] := by
  intro m
  induction m with
  | zero => intro j J hm hj e1; omega
  | succ m ih =>
    intro j J hm hj e1
    obtain ⟨w1, w2, w3, w4, w5, w6, w7⟩ := id hw
    have hp1 : 2 ^ q ≤ 32768 := Nat.le_trans (Nat.pow_le_pow_right (n := 2) (j := 15) (by decide) hq15) (by decide)
    have hp2 : (C 0 < q ∧ 2 ^ q = 2 * 2 ^ C 0) ∨ (¬ C 0 < q ∧ 2 ^ C 0 = 2 * 2 ^ q) := by
      rcases hq9 with h | h
      · exact Or.inl ⟨by omega, by rw [h, Nat.pow_succ]; omega⟩
      · exact Or.inr ⟨by omega, by rw [← h, Nat.pow_succ]; omega⟩
    refine v_iload (n := 41) k dX4_buildDirectoryPage_39 rfl rfl ?_
    refine v_sipush (n := 44) k dX4_buildDirectoryPage_41 (by decide) rfl ?_
    refine v_icmp_ge (n := 47) (t := 101) k (⟨by omega, by omega⟩) (⟨by omega, by omega⟩) dX4_buildDirectoryPage_44 (by decide) rfl (fun c_44 => ?_) (fun c_44 => ?_)
    · refine v_cg 4 (fun i => iI ((dpg C q kk i : Nat) : Int)) rfl (fun i hi => by
        unfold dpg dpi
        by_cases g : i < j ∧ kk * 256 + i < 2 ^ q
        · rw [if_pos g, if_pos ⟨hi, g.2⟩]
        · rw [if_neg g, if_neg (by omega)]) ?_
      refine v_vretU k hq ?_ rfl dX4_buildDirectoryPage_101
      exact ⟨rfl, rfl⟩
    · refine v_iload (n := 49) k dX4_buildDirectoryPage_47 rfl rfl ?_
      refine v_iload (n := 51) k dX4_buildDirectoryPage_49 rfl rfl ?_
      refine v_iadd (n := 52) k dX4_buildDirectoryPage_51 rfl ?_
      refine v_iload (n := 54) k dX4_buildDirectoryPage_52 rfl rfl ?_
      refine v_icmp_ge (n := 57) (t := 101) k (⟨by omega, by omega⟩) (⟨by omega, by omega⟩) dX4_buildDirectoryPage_54 (by decide) rfl (fun c_54 => ?_) (fun c_54 => ?_)
      · refine v_cg 4 (fun i => iI ((dpg C q kk i : Nat) : Int)) rfl (fun i hi => by
          unfold dpg dpi
          by_cases g : i < j ∧ kk * 256 + i < 2 ^ q
          · rw [if_pos g, if_pos ⟨hi, g.2⟩]
          · rw [if_neg g, if_neg (by omega)]) ?_
        refine v_vretU k hq ?_ rfl dX4_buildDirectoryPage_101
        exact ⟨rfl, rfl⟩
      · have hlt : kk * 256 + j < 2 ^ q := by omega
        refine v_iload (n := 59) k dX4_buildDirectoryPage_57 rfl rfl ?_
        refine v_iload (n := 61) k dX4_buildDirectoryPage_59 rfl rfl ?_
        refine v_iadd (n := 62) k dX4_buildDirectoryPage_61 rfl ?_
        refine v_istore (n := 64) k dX4_buildDirectoryPage_62 rfl (by decide) rfl rfl ?_
        refine v_aload_n (n := 65) k dX4_buildDirectoryPage_64 rfl rfl ?_
        refine v_get (n := 68) k ciX4 0 2 (by decide) fl_X4_28 rfl rfl dX4_buildDirectoryPage_65 rfl ?_
        refine v_iload (n := 70) k dX4_buildDirectoryPage_68 rfl rfl ?_
        refine v_aload_n (n := 71) k dX4_buildDirectoryPage_70 rfl rfl ?_
        refine v_get (n := 74) k ciX4 0 0 (by decide) fl_X4_10 rfl rfl dX4_buildDirectoryPage_71 rfl ?_
        refine v_iload_n (n := 75) k dX4_buildDirectoryPage_74 rfl rfl ?_
        refine v_if_eq (n := 78) (t := 85) k (⟨by cases (decide (C 0 < q)) <;> decide, by cases (decide (C 0 < q)) <;> decide⟩) dX4_buildDirectoryPage_75 (by decide) rfl (fun c_75 => ?_) (fun c_75 => ?_)
        · have hc9 : ¬ C 0 < q := fun h8 => by
            rw [bI_t (decide_eq_true h8)] at c_75
            omega
          have hen : eN C q (kk * 256 + j) = entN C (2 * (kk * 256 + j)) := by unfold eN; rw [if_neg hc9]
          refine v_iconst (n := 86) k dX4_buildDirectoryPage_85 rfl ?_
          refine v_iload (n := 88) k dX4_buildDirectoryPage_86 rfl rfl ?_
          refine v_imul (n := 89) k dX4_buildDirectoryPage_88 rfl ?_
          refine v_rdVi (n := 92) k [1, 2] 1 (z_X1_entryAt hw (i := 2 * (kk * 256 + j)) (by omega) (by omega)) miX1_entryAt ml_X4_145 (by decide) (by decide) rfl (by decide) rfl rfl rfl rfl (Nat.le_of_ble_eq_true rfl) ⟨Nat.zero_le _, Nat.zero_le _⟩ dX4_buildDirectoryPage_89 rfl ?_
          refine v_upV (n := 95) k [3, 4] 3 (z_X2_set (i := j) (v := eN C q (kk * 256 + j)) e1 (by rw [hen]) (by omega)) miX2_set ml_X4_215 (by decide) (by decide) rfl (by decide) rfl rfl rfl rfl (Nat.le_of_ble_eq_true rfl) ⟨Nat.zero_le _, Nat.zero_le _⟩ dX4_buildDirectoryPage_92 rfl ?_
          rw [dpi_s hlt w3]
          rintro _ _ ⟨rfl, rfl⟩
          dsimp only [wput, List.set, Option.toList, List.nil_append, List.cons_append]
          refine v_iinc (n := 98) k dX4_buildDirectoryPage_95 rfl (by decide) rfl rfl rfl ?_
          refine v_goto (t := 39) k dX4_buildDirectoryPage_98 (by decide) ?_
          refine v_lvf [(0, .ref hx), (1, .int (iI KI)), (2, .int (iI QI)), (3, .int (iI (bI (decide (C 0 < q))))), (4, .int (iI ((kk * 256 : Nat) : Int))), (5, .int (iI ((2 ^ q : Nat) : Int))), (6, .int (iI (J + 1)))] ⟨rfl, rfl, rfl, rfl, rfl, rfl, rfl, trivial⟩ ?_
          exact ih (j + 1) _ (by omega) (by omega) (by omega)
        · have hc9 : C 0 < q := by
            cases h8 : decide (C 0 < q) with
            | true => exact of_decide_eq_true h8
            | false => exact absurd (by rw [h8]; rfl) c_75
          have hen : eN C q (kk * 256 + j) = entN C ((kk * 256 + j) / 2) := by unfold eN; rw [if_pos hc9]
          refine v_iload (n := 80) k dX4_buildDirectoryPage_78 rfl rfl ?_
          refine v_iconst (n := 81) k dX4_buildDirectoryPage_80 rfl ?_
          refine v_idiv (n := 82) k ((((kk * 256 + j) / 2 : Nat) : Int)) (ax_ne0 (by omega) (by omega)) (ax_div (by omega) rfl (by omega) (by omega) (by omega)) dX4_buildDirectoryPage_81 rfl ?_
          refine v_goto (t := 89) k dX4_buildDirectoryPage_82 (by decide) ?_
          refine v_rdVi (n := 92) k [1, 2] 1 (z_X1_entryAt hw (i := (kk * 256 + j) / 2) rfl (by omega)) miX1_entryAt ml_X4_145 (by decide) (by decide) rfl (by decide) rfl rfl rfl rfl (Nat.le_of_ble_eq_true rfl) ⟨Nat.zero_le _, Nat.zero_le _⟩ dX4_buildDirectoryPage_89 rfl ?_
          refine v_upV (n := 95) k [3, 4] 3 (z_X2_set (i := j) (v := eN C q (kk * 256 + j)) e1 (by rw [hen]) (by omega)) miX2_set ml_X4_215 (by decide) (by decide) rfl (by decide) rfl rfl rfl rfl (Nat.le_of_ble_eq_true rfl) ⟨Nat.zero_le _, Nat.zero_le _⟩ dX4_buildDirectoryPage_92 rfl ?_
          rw [dpi_s hlt w3]
          rintro _ _ ⟨rfl, rfl⟩
          dsimp only [wput, List.set, Option.toList, List.nil_append, List.cons_append]
          refine v_iinc (n := 98) k dX4_buildDirectoryPage_95 rfl (by decide) rfl rfl rfl ?_
          refine v_goto (t := 39) k dX4_buildDirectoryPage_98 (by decide) ?_
          refine v_lvf [(0, .ref hx), (1, .int (iI KI)), (2, .int (iI QI)), (3, .int (iI (bI (decide (C 0 < q))))), (4, .int (iI ((kk * 256 : Nat) : Int))), (5, .int (iI ((2 ^ q : Nat) : Int))), (6, .int (iI (J + 1)))] ⟨rfl, rfl, rfl, rfl, rfl, rfl, rfl, trivial⟩ ?_
          exact ih (j + 1) _ (by omega) (by omega) (by omega)
set_option maxHeartbeats 1000000 in
set_option maxRecDepth 20000 in
theorem z_X4_buildDirectoryPage {D : va_G} {cI cB cJ cZ : ClassId} {hx hd hc hk hch hb hbb hh ht ha : Nat} {an : Int} {ko : Int} {pg lg : Nat} {wt al dn : Int} {C : Nat → Nat} {KI QI : Int} {kk q : Nat} {f : Nat → Nat} (hw : DW C pg lg) (hKI : KI = (kk : Int)) (hQI : QI = (q : Int)) (hq9 : q = C 0 + 1 ∨ q + 1 = C 0) (hq15 : q ≤ 15) (hkk : kk ≤ 256) : ∀ l, Up l yX4_buildDirectoryPage cX4_buildDirectoryPage 8 none ({ frames := 3, cells := 0, slots := 0, locals := 64 }) D (TY cI cB cJ cZ) [.ref hx, .int (iI KI), .int (iI QI)] [oHash hx hd hch hb hh ht ha an, oDisk hd hc hk ko pg lg wt al dn, aN cI hc 65280 C, oPage hb hbb, aN cI hbb 256 (f)] (fun r w1 => r = none ∧ w1 = [oHash hx hd hch hb hh ht ha an, oDisk hd hc hk ko pg lg wt al dn, aN cI hc 65280 C, oPage hb hbb, aN cI hbb 256 (dpg C q kk)]) := by
  intro l
  refine Up_of (by decide) (Nat.le_of_ble_eq_true rfl) (fun x k hq => ?_)
  obtain ⟨w1, w2, w3, w4, w5, w6, w7⟩ := id hw
  have hp1 : 2 ^ q ≤ 32768 := Nat.le_trans (Nat.pow_le_pow_right (n := 2) (j := 15) (by decide) hq15) (by decide)
  refine v_iload_n (n := 1) k dX4_buildDirectoryPage_0 rfl rfl ?_
  refine v_aload_n (n := 2) k dX4_buildDirectoryPage_1 rfl rfl ?_
  refine v_get (n := 5) k ciX4 0 0 (by decide) fl_X4_10 rfl rfl dX4_buildDirectoryPage_2 rfl ?_
  refine v_rdVi (n := 8) k [1, 2] 1 (z_X1_depth hw) miX1_depth ml_X4_160 (by decide) (by decide) rfl (by decide) rfl rfl rfl rfl (Nat.le_of_ble_eq_true rfl) ⟨Nat.zero_le _, Nat.zero_le _⟩ dX4_buildDirectoryPage_5 rfl ?_
  refine v_icmp_le (n := 11) (t := 15) k (⟨by omega, by omega⟩) (⟨by omega, by omega⟩) dX4_buildDirectoryPage_8 (by decide) rfl (fun c_8 => ?_) (fun c_8 => ?_)
  · refine v_iconst (n := 16) k dX4_buildDirectoryPage_15 rfl ?_
    refine v_istore_n (n := 17) k dX4_buildDirectoryPage_16 rfl (by decide) rfl rfl ?_
    refine v_iload_n (n := 18) k dX4_buildDirectoryPage_17 rfl rfl ?_
    refine v_sipush (n := 21) k dX4_buildDirectoryPage_18 (by decide) rfl ?_
    refine v_imul (n := 22) k dX4_buildDirectoryPage_21 rfl ?_
    refine v_istore (n := 24) k dX4_buildDirectoryPage_22 rfl (by decide) rfl rfl ?_
    refine v_iconst (n := 25) k dX4_buildDirectoryPage_24 rfl ?_
    refine v_iload_n (n := 26) k dX4_buildDirectoryPage_25 rfl rfl ?_
    refine v_ishl (n := 27) k (((1 * 2 ^ q : Nat) : Int)) (ax_shl rfl hQI (by omega) (by omega)) dX4_buildDirectoryPage_26 rfl ?_
    refine v_istore (n := 29) k dX4_buildDirectoryPage_27 rfl (by decide) rfl rfl ?_
    refine v_aload_n (n := 30) k dX4_buildDirectoryPage_29 rfl rfl ?_
    refine v_get (n := 33) k ciX4 0 2 (by decide) fl_X4_28 rfl rfl dX4_buildDirectoryPage_30 rfl ?_
    refine v_upV (n := 36) k [3, 4] 3 (z_X2_clear) miX2_clear ml_X4_212 (by decide) (by decide) rfl (by decide) rfl rfl rfl rfl (Nat.le_of_ble_eq_true rfl) ⟨Nat.zero_le _, Nat.zero_le _⟩ dX4_buildDirectoryPage_33 rfl ?_
    rw [dpi_0 C q kk]
    rintro _ _ ⟨rfl, rfl⟩
    dsimp only [wput, List.set, Option.toList, List.nil_append, List.cons_append]
    refine v_iconst (n := 37) k dX4_buildDirectoryPage_36 rfl ?_
    refine v_istore (n := 39) k dX4_buildDirectoryPage_37 rfl (by decide) rfl rfl ?_
    first
    | (have h8 : bI (decide (C 0 < q)) = 1 := bI_t (decide_eq_true (by omega))
       have h0 := lp_X4_buildDirectoryPage k hq hw hKI hQI hq9 hq15 hkk 257 0 0 (by omega) (by omega) rfl
       rw [h8, ← Nat.one_mul (2 ^ q), show ((kk * 256 : Nat) : Int) = KI * 256 by omega] at h0
       exact h0)
    | (have h8 : bI (decide (C 0 < q)) = 0 := bI_f (decide_eq_false (by omega))
       have h0 := lp_X4_buildDirectoryPage k hq hw hKI hQI hq9 hq15 hkk 257 0 0 (by omega) (by omega) rfl
       rw [h8, ← Nat.one_mul (2 ^ q), show ((kk * 256 : Nat) : Int) = KI * 256 by omega] at h0
       exact h0)
  · refine v_iconst (n := 12) k dX4_buildDirectoryPage_11 rfl ?_
    refine v_goto (t := 16) k dX4_buildDirectoryPage_12 (by decide) ?_
    refine v_istore_n (n := 17) k dX4_buildDirectoryPage_16 rfl (by decide) rfl rfl ?_
    refine v_iload_n (n := 18) k dX4_buildDirectoryPage_17 rfl rfl ?_
    refine v_sipush (n := 21) k dX4_buildDirectoryPage_18 (by decide) rfl ?_
    refine v_imul (n := 22) k dX4_buildDirectoryPage_21 rfl ?_
    refine v_istore (n := 24) k dX4_buildDirectoryPage_22 rfl (by decide) rfl rfl ?_
    refine v_iconst (n := 25) k dX4_buildDirectoryPage_24 rfl ?_
    refine v_iload_n (n := 26) k dX4_buildDirectoryPage_25 rfl rfl ?_
    refine v_ishl (n := 27) k (((1 * 2 ^ q : Nat) : Int)) (ax_shl rfl hQI (by omega) (by omega)) dX4_buildDirectoryPage_26 rfl ?_
    refine v_istore (n := 29) k dX4_buildDirectoryPage_27 rfl (by decide) rfl rfl ?_
    refine v_aload_n (n := 30) k dX4_buildDirectoryPage_29 rfl rfl ?_
    refine v_get (n := 33) k ciX4 0 2 (by decide) fl_X4_28 rfl rfl dX4_buildDirectoryPage_30 rfl ?_
    refine v_upV (n := 36) k [3, 4] 3 (z_X2_clear) miX2_clear ml_X4_212 (by decide) (by decide) rfl (by decide) rfl rfl rfl rfl (Nat.le_of_ble_eq_true rfl) ⟨Nat.zero_le _, Nat.zero_le _⟩ dX4_buildDirectoryPage_33 rfl ?_
    rw [dpi_0 C q kk]
    rintro _ _ ⟨rfl, rfl⟩
    dsimp only [wput, List.set, Option.toList, List.nil_append, List.cons_append]
    refine v_iconst (n := 37) k dX4_buildDirectoryPage_36 rfl ?_
    refine v_istore (n := 39) k dX4_buildDirectoryPage_37 rfl (by decide) rfl rfl ?_
    first
    | (have h8 : bI (decide (C 0 < q)) = 1 := bI_t (decide_eq_true (by omega))
       have h0 := lp_X4_buildDirectoryPage k hq hw hKI hQI hq9 hq15 hkk 257 0 0 (by omega) (by omega) rfl
       rw [h8, ← Nat.one_mul (2 ^ q), show ((kk * 256 : Nat) : Int) = KI * 256 by omega] at h0
       exact h0)
    | (have h8 : bI (decide (C 0 < q)) = 0 := bI_f (decide_eq_false (by omega))
       have h0 := lp_X4_buildDirectoryPage k hq hw hKI hQI hq9 hq15 hkk 257 0 0 (by omega) (by omega) rfl
       rw [h8, ← Nat.one_mul (2 ^ q), show ((kk * 256 : Nat) : Int) = KI * 256 by omega] at h0
       exact h0)
