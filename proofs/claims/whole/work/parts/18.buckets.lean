/-- the records r < n of a page that sel takes -/
def recS (C : Nat → Nat) (p : Nat) (sel : Nat → Bool) (n : Nat) : List (List Nat) := ((List.range n).filter sel).map (fun r => recL C p (rst C p r))
theorem recS_t {C : Nat → Nat} {p n : Nat} {sel : Nat → Bool} (h : sel n = true) : recS C p sel (n + 1) = recS C p sel n ++ [recL C p (rst C p n)] := by
  unfold recS
  rw [List.range_succ, List.filter_append, List.map_append]
  simp [h]
theorem recS_f {C : Nat → Nat} {p n : Nat} {sel : Nat → Bool} (h : sel n = false) : recS C p sel (n + 1) = recS C p sel n := by
  unfold recS
  rw [List.range_succ, List.filter_append, List.map_append]
  simp [h]
theorem recS_len (C : Nat → Nat) (p : Nat) (sel : Nat → Bool) (n : Nat) : (recS C p sel n).length ≤ n := by
  unfold recS
  rw [List.length_map]
  exact Nat.le_trans (List.length_filter_le _ _) (by simp)
theorem recS_bytes (C : Nat → Nat) (p : Nat) (sel : Nat → Bool) (n : Nat) : (recS C p sel n).flatten.length + 4 ≤ rst C p n := by
  induction n with
  | zero => simp [recS, rst]
  | succ n ih =>
    have e : rst C p (n + 1) = rst C p n + rsz C p (rst C p n) := rfl
    cases h : sel n with
    | true =>
      rw [recS_t h, List.flatten_append, List.length_append, e]
      have : [recL C p (rst C p n)].flatten.length = rsz C p (rst C p n) := by simp [recL_len]
      omega
    | false =>
      rw [recS_f h, e]
      omega
theorem WB.count {C : Nat → Nat} {p : Nat} (h : WB C p) : 3 * pb C p 1 ≤ bL C p := by
  have key : ∀ r, r ≤ pb C p 1 → 3 * r + 4 ≤ rst C p r := by
    intro r
    induction r with
    | zero => intro _; simp [rst]
    | succ r ih =>
      intro hr
      have h1 := ih (by omega)
      have h2 := (h.1 r (by omega)).1
      have e : rst C p (r + 1) = rst C p r + rsz C p (rst C p r) := rfl
      have e2 := rsz_ge C p (rst C p r)
      omega
  have h3 := key _ (Nat.le_refl _)
  have h4 := h.2.1
  omega
def notAt (C : Nat → Nat) (p : Nat) (old : Int) : Nat → Bool := fun r => decide (((rst C p r : Nat) : Int) ≠ old)
set_option maxHeartbeats 1000000 in
set_option maxRecDepth 20000 in
theorem lp_X4_addRecordsBut {D : va_G} {cI cB cJ cZ : ClassId} {x : Kx} {hx hd hc hk hch hb hbb hh ht ha : Nat} {an : Int} {ko : Int} {pg lg : Nat} {wt al dn : Int} {C : Nat → Nat} {P OLD : Int} {p d : Nat} {rs : List (List Nat)} (k : Kf x cX4_addRecordsBut 6 yX4_addRecordsBut.cls none D (TY cI cB cJ cZ) ({ frames := 3, cells := 0, slots := 0, locals := 70 })) (hq : isU x D [hx, hd, hc, hb, hbb] (fun r w1 => r = none ∧ w1 = [oHash hx hd hch hb hh ht ha an, oDisk hd hc hk ko pg lg wt al dn, aN cI hc 65280 C, oPage hb hbb, aN cI hbb 256 (bpg d (rs ++ recS C p (notAt C p OLD) (pb C p 1)))])) (hP : P = (p : Int)) (hp : p < pg) (hg : pg ≤ 255) (hw9 : WB C p) (hC : ∀ j, C j < 256) (hO : in32 OLD) (hn : rs.length + pb C p 1 < 255) (hL : rs.flatten.length + bL C p ≤ 252) : ∀ (m : Nat) (i : Nat) (S I : Int), pb C p 1 < i + m → i ≤ pb C p 1 → I = (i : Int) → S = ((rst C p i : Nat) : Int) → Vw x 6 (fun q => q ∈ [hx, hd, hc, hb, hbb]) D true 0 0 [oHash hx hd hch hb hh ht ha an, oDisk hd hc hk ko pg lg wt al dn, aN cI hc 65280 C, oPage hb hbb, aN cI hbb 256 (bpg d (rs ++ recS C p (notAt C p OLD) i))] 16 [(0, .ref hx), (1, .int (iI P)), (2, .int (iI OLD)), (3, .int (iI ((pb C p 1 : Nat) : Int))), (4, .int (iI S)), (5, .int (iI I))] [] := by
  intro m
  induction m with
  | zero => intro i S I hm hi e1 e2; omega
  | succ m ih =>
    intro i S I hm hi e1 e2
    obtain ⟨hO1, hO2⟩ := hO
    have hpb : pb C p 1 < 256 := hC _
    refine v_iload (n := 18) k dX4_addRecordsBut_16 rfl rfl ?_
    refine v_iload_n (n := 19) k dX4_addRecordsBut_18 rfl rfl ?_
    refine v_icmp_ge (n := 22) (t := 63) k (⟨by omega, by omega⟩) (⟨by omega, by omega⟩) dX4_addRecordsBut_19 (by decide) rfl (fun c_19 => ?_) (fun c_19 => ?_)
    · refine v_vretU k hq ?_ rfl dX4_addRecordsBut_63
      have e9 : i = pb C p 1 := by omega
      rw [e9]
      exact ⟨rfl, rfl⟩
    · have hf := hw9.fit (r := i) (by omega)
      have hz9 := rsz_ge C p (rst C p i)
      have h4 := rst_ge C p i
      have hb9 := recS_bytes C p (notAt C p OLD) i
      have hl9 := recS_len C p (notAt C p OLD) i
      have hwl := hw9.2.2
      refine v_iload (n := 24) k dX4_addRecordsBut_22 rfl rfl ?_
      refine v_iload_n (n := 25) k dX4_addRecordsBut_24 rfl rfl ?_
      refine v_icmp_eq (n := 28) (t := 42) k (⟨by omega, by omega⟩) (⟨by omega, by omega⟩) dX4_addRecordsBut_25 (by decide) rfl (fun c_25 => ?_) (fun c_25 => ?_)
      · refine v_iload (n := 44) k dX4_addRecordsBut_42 rfl rfl ?_
        refine v_aload_n (n := 45) k dX4_addRecordsBut_44 rfl rfl ?_
        refine v_get (n := 48) k ciX4 0 0 (by decide) fl_X4_10 rfl rfl dX4_addRecordsBut_45 rfl ?_
        refine v_iload_n (n := 49) k dX4_addRecordsBut_48 rfl rfl ?_
        refine v_iload (n := 51) k dX4_addRecordsBut_49 rfl rfl ?_
        refine v_rdVi (n := 54) k [1, 2] 1 (z_X1_recordSize (s := rst C p i) hP hp hg e2 (by omega)) miX1_recordSize ml_X4_189 (by decide) (by decide) rfl (by decide) rfl rfl rfl rfl (Nat.le_of_ble_eq_true rfl) ⟨Nat.zero_le _, Nat.zero_le _⟩ dX4_addRecordsBut_51 rfl ?_
        refine v_iadd (n := 55) k dX4_addRecordsBut_54 rfl ?_
        refine v_istore (n := 57) k dX4_addRecordsBut_55 rfl (by decide) rfl rfl ?_
        refine v_iinc (n := 60) k dX4_addRecordsBut_57 rfl (by decide) rfl rfl rfl ?_
        refine v_goto (t := 16) k dX4_addRecordsBut_60 (by decide) ?_
        first
        | (have h0 := ih (i + 1) (S + ((rsz C p (rst C p i) : Nat) : Int)) (I + 1) (by omega) (by omega) (by omega) (by rw [e2]; rfl)
           rw [recS_f (n := i) (sel := notAt C p OLD) (decide_eq_false (by omega))] at h0
           exact h0)
        | exact ih (i + 1) (S + ((rsz C p (rst C p i) : Nat) : Int)) (I + 1) (by omega) (by omega) (by omega) (by rw [e2]; rfl)
      · refine v_aload_n (n := 29) k dX4_addRecordsBut_28 rfl rfl ?_
        refine v_get (n := 32) k ciX4 0 2 (by decide) fl_X4_28 rfl rfl dX4_addRecordsBut_29 rfl ?_
        refine v_aload_n (n := 33) k dX4_addRecordsBut_32 rfl rfl ?_
        refine v_get (n := 36) k ciX4 0 0 (by decide) fl_X4_10 rfl rfl dX4_addRecordsBut_33 rfl ?_
        refine v_iload_n (n := 37) k dX4_addRecordsBut_36 rfl rfl ?_
        refine v_iload (n := 39) k dX4_addRecordsBut_37 rfl rfl ?_
        refine v_upV (n := 42) k [3, 4, 1, 2] 3 (z_X2_copyRecord (p := p) (s := rst C p i) (d := d) (rs := rs ++ recS C p (notAt C p OLD) i) hP e2 hp hg hC (by omega) (by rw [List.length_append]; omega) (by rw [List.flatten_append, List.length_append]; omega)) miX2_copyRecord ml_X4_202 (by decide) (by decide) rfl (by decide) rfl rfl rfl rfl (Nat.le_of_ble_eq_true rfl) ⟨Nat.zero_le _, Nat.zero_le _⟩ dX4_addRecordsBut_39 rfl ?_
        rw [List.append_assoc, ← recS_t (n := i) (sel := notAt C p OLD) (decide_eq_true (by omega))]
        rintro _ _ ⟨rfl, rfl⟩
        dsimp only [wput, List.set, Option.toList, List.nil_append, List.cons_append]
        refine v_iload (n := 44) k dX4_addRecordsBut_42 rfl rfl ?_
        refine v_aload_n (n := 45) k dX4_addRecordsBut_44 rfl rfl ?_
        refine v_get (n := 48) k ciX4 0 0 (by decide) fl_X4_10 rfl rfl dX4_addRecordsBut_45 rfl ?_
        refine v_iload_n (n := 49) k dX4_addRecordsBut_48 rfl rfl ?_
        refine v_iload (n := 51) k dX4_addRecordsBut_49 rfl rfl ?_
        refine v_rdVi (n := 54) k [1, 2] 1 (z_X1_recordSize (s := rst C p i) hP hp hg e2 (by omega)) miX1_recordSize ml_X4_189 (by decide) (by decide) rfl (by decide) rfl rfl rfl rfl (Nat.le_of_ble_eq_true rfl) ⟨Nat.zero_le _, Nat.zero_le _⟩ dX4_addRecordsBut_51 rfl ?_
        refine v_iadd (n := 55) k dX4_addRecordsBut_54 rfl ?_
        refine v_istore (n := 57) k dX4_addRecordsBut_55 rfl (by decide) rfl rfl ?_
        refine v_iinc (n := 60) k dX4_addRecordsBut_57 rfl (by decide) rfl rfl rfl ?_
        refine v_goto (t := 16) k dX4_addRecordsBut_60 (by decide) ?_
        first
        | (have h0 := ih (i + 1) (S + ((rsz C p (rst C p i) : Nat) : Int)) (I + 1) (by omega) (by omega) (by omega) (by rw [e2]; rfl)
           rw [recS_f (n := i) (sel := notAt C p OLD) (decide_eq_false (by omega))] at h0
           exact h0)
        | exact ih (i + 1) (S + ((rsz C p (rst C p i) : Nat) : Int)) (I + 1) (by omega) (by omega) (by omega) (by rw [e2]; rfl)
set_option maxHeartbeats 1000000 in
set_option maxRecDepth 20000 in
theorem z_X4_addRecordsBut {D : va_G} {cI cB cJ cZ : ClassId} {hx hd hc hk hch hb hbb hh ht ha : Nat} {an : Int} {ko : Int} {pg lg : Nat} {wt al dn : Int} {C : Nat → Nat} {P OLD : Int} {p d : Nat} {rs : List (List Nat)} (hP : P = (p : Int)) (hp : p < pg) (hg : pg ≤ 255) (hw9 : WB C p) (hC : ∀ j, C j < 256) (hO : in32 OLD) (hn : rs.length + pb C p 1 < 255) (hL : rs.flatten.length + bL C p ≤ 252) : ∀ l, Up l yX4_addRecordsBut cX4_addRecordsBut 6 none ({ frames := 3, cells := 0, slots := 0, locals := 70 }) D (TY cI cB cJ cZ) [.ref hx, .int (iI P), .int (iI OLD)] [oHash hx hd hch hb hh ht ha an, oDisk hd hc hk ko pg lg wt al dn, aN cI hc 65280 C, oPage hb hbb, aN cI hbb 256 (bpg d rs)] (fun r w1 => r = none ∧ w1 = [oHash hx hd hch hb hh ht ha an, oDisk hd hc hk ko pg lg wt al dn, aN cI hc 65280 C, oPage hb hbb, aN cI hbb 256 (bpg d (rs ++ recS C p (notAt C p OLD) (pb C p 1)))]) := by
  intro l
  refine Up_of (by decide) (Nat.le_of_ble_eq_true rfl) (fun x k hq => ?_)
  refine v_aload_n (n := 1) k dX4_addRecordsBut_0 rfl rfl ?_
  refine v_get (n := 4) k ciX4 0 0 (by decide) fl_X4_10 rfl rfl dX4_addRecordsBut_1 rfl ?_
  refine v_iload_n (n := 5) k dX4_addRecordsBut_4 rfl rfl ?_
  refine v_iconst (n := 6) k dX4_addRecordsBut_5 rfl ?_
  refine v_rdVi (n := 9) k [1, 2] 1 (z_X1_at (p := p) (i := 1) hP rfl hp (by omega) hg) miX1_at ml_X4_130 (by decide) (by decide) rfl (by decide) rfl rfl rfl rfl (Nat.le_of_ble_eq_true rfl) ⟨Nat.zero_le _, Nat.zero_le _⟩ dX4_addRecordsBut_6 rfl ?_
  refine v_istore_n (n := 10) k dX4_addRecordsBut_9 rfl (by decide) rfl rfl ?_
  refine v_iconst (n := 11) k dX4_addRecordsBut_10 rfl ?_
  refine v_istore (n := 13) k dX4_addRecordsBut_11 rfl (by decide) rfl rfl ?_
  refine v_iconst (n := 14) k dX4_addRecordsBut_13 rfl ?_
  refine v_istore (n := 16) k dX4_addRecordsBut_14 rfl (by decide) rfl rfl ?_
  have h0 := lp_X4_addRecordsBut (d := d) (rs := rs) k hq hP hp hg hw9 hC hO hn hL (pb C p 1 + 1) 0 4 0 (by omega) (by omega) rfl rfl
  rw [show recS C p (notAt C p OLD) 0 = [] from rfl, List.append_nil] at h0
  exact h0
set_option maxHeartbeats 1000000 in
set_option maxRecDepth 20000 in
theorem z_X4_buildWithout {D : va_G} {cI cB cJ cZ : ClassId} {hx hd hc hk hch hb hbb hh ht ha : Nat} {an : Int} {ko : Int} {pg lg : Nat} {wt al dn : Int} {C : Nat → Nat} {P OLD : Int} {p : Nat} {f : Nat → Nat} (hP : P = (p : Int)) (hp : p < pg) (hg : pg ≤ 255) (hw9 : WB C p) (hC : ∀ j, C j < 256) (hO : in32 OLD) : ∀ l, Up l yX4_buildWithout cX4_buildWithout 3 none ({ frames := 4, cells := 0, slots := 0, locals := 95 }) D (TY cI cB cJ cZ) [.ref hx, .int (iI P), .int (iI OLD)] [oHash hx hd hch hb hh ht ha an, oDisk hd hc hk ko pg lg wt al dn, aN cI hc 65280 C, oPage hb hbb, aN cI hbb 256 (f)] (fun r w1 => r = none ∧ w1 = [oHash hx hd hch hb hh ht ha an, oDisk hd hc hk ko pg lg wt al dn, aN cI hc 65280 C, oPage hb hbb, aN cI hbb 256 (bpg (pb C p 0) (recS C p (notAt C p OLD) (pb C p 1)))]) := by
  intro l
  refine Up_of (by decide) (Nat.le_of_ble_eq_true rfl) (fun x k hq => ?_)
  have hcn := hw9.count
  have hwl := hw9.2.2
  refine v_aload_n (n := 1) k dX4_buildWithout_0 rfl rfl ?_
  refine v_get (n := 4) k ciX4 0 2 (by decide) fl_X4_28 rfl rfl dX4_buildWithout_1 rfl ?_
  refine v_aload_n (n := 5) k dX4_buildWithout_4 rfl rfl ?_
  refine v_get (n := 8) k ciX4 0 0 (by decide) fl_X4_10 rfl rfl dX4_buildWithout_5 rfl ?_
  refine v_iload_n (n := 9) k dX4_buildWithout_8 rfl rfl ?_
  refine v_iconst (n := 10) k dX4_buildWithout_9 rfl ?_
  refine v_rdVi (n := 13) k [1, 2] 1 (z_X1_at (p := p) (i := 0) hP rfl hp (by omega) hg) miX1_at ml_X4_130 (by decide) (by decide) rfl (by decide) rfl rfl rfl rfl (Nat.le_of_ble_eq_true rfl) ⟨Nat.zero_le _, Nat.zero_le _⟩ dX4_buildWithout_10 rfl ?_
  refine v_upV (n := 16) k [3, 4] 3 (z_X2_startBucket (v := pb C p 0) rfl) miX2_startBucket ml_X4_196 (by decide) (by decide) rfl (by decide) rfl rfl rfl rfl (Nat.le_of_ble_eq_true rfl) ⟨Nat.zero_le _, Nat.zero_le _⟩ dX4_buildWithout_13 rfl ?_
  rw [bpg_0 (show pb C p 0 < 256 from hC _)]
  rintro _ _ ⟨rfl, rfl⟩
  dsimp only [wput, List.set, Option.toList, List.nil_append, List.cons_append]
  refine v_aload_n (n := 17) k dX4_buildWithout_16 rfl rfl ?_
  refine v_iload_n (n := 18) k dX4_buildWithout_17 rfl rfl ?_
  refine v_iload_n (n := 19) k dX4_buildWithout_18 rfl rfl ?_
  refine v_upV (n := 22) k [0, 1, 2, 3, 4] 0 (z_X4_addRecordsBut (d := pb C p 0) (rs := []) hP hp hg hw9 hC hO (by simp; omega) (by simp; omega)) miX4_addRecordsBut ml_X4_199 (by decide) (by decide) rfl (by decide) rfl rfl rfl rfl (Nat.le_of_ble_eq_true rfl) ⟨Nat.zero_le _, Nat.zero_le _⟩ dX4_buildWithout_19 rfl ?_
  rintro _ _ ⟨rfl, rfl⟩
  dsimp only [wput, List.set, Option.toList, List.nil_append, List.cons_append]
  refine v_vretU k hq ?_ rfl dX4_buildWithout_22
  exact ⟨rfl, rfl⟩
def bitB (h e : Nat) : Nat := h / 2 ^ (15 - e) % 2
set_option maxHeartbeats 1000000 in
set_option maxRecDepth 20000 in
theorem lp_X4_buildHalf {D : va_G} {cI cB cJ cZ : ClassId} {x : Kx} {hx hd hc hk hch hb hbb hh ht ha : Nat} {an : Int} {ko : Int} {pg lg : Nat} {wt al dn : Int} {C : Nat → Nat} {P E B : Int} {p e b : Nat} (k : Kf x cX4_buildHalf 8 yX4_buildHalf.cls none D (TY cI cB cJ cZ) ({ frames := 3, cells := 0, slots := 0, locals := 70 })) (hq : isU x D [hx, hd, hc, hb, hbb] (fun r w1 => r = none ∧ w1 = [oHash hx hd hch hb hh ht ha an, oDisk hd hc hk ko pg lg wt al dn, aN cI hc 65280 C, oPage hb hbb, aN cI hbb 256 (bpg (e + 1) (recS C p (fun r => bitB (rh C p r) e == b) (pb C p 1)))])) (hP : P = (p : Int)) (hp : p < pg) (hg : pg ≤ 255) (hw9 : WB C p) (hC : ∀ j, C j < 256) (hE : E = (e : Int)) (he : e ≤ 15) (hB : B = (b : Int)) (hb9 : b < 2) : ∀ (m : Nat) (i : Nat) (S I : Int), pb C p 1 < i + m → i ≤ pb C p 1 → I = (i : Int) → S = ((rst C p i : Nat) : Int) → Vw x 8 (fun q => q ∈ [hx, hd, hc, hb, hbb]) D true 0 0 [oHash hx hd hch hb hh ht ha an, oDisk hd hc hk ko pg lg wt al dn, aN cI hc 65280 C, oPage hb hbb, aN cI hbb 256 (bpg (e + 1) (recS C p (fun r => bitB (rh C p r) e == b) i))] 27 [(0, .ref hx), (1, .int (iI P)), (2, .int (iI E)), (3, .int (iI B)), (4, .int (iI ((pb C p 1 : Nat) : Int))), (5, .int (iI S)), (6, .int (iI I))] [] := by
  intro m
  induction m with
  | zero => intro i S I hm hi e1 e2; omega
  | succ m ih =>
    intro i S I hm hi e1 e2
    have hpb : pb C p 1 < 256 := hC _
    have hcn := hw9.count
    have hwl := hw9.2.2
    refine v_iload (n := 29) k dX4_buildHalf_27 rfl rfl ?_
    refine v_iload (n := 31) k dX4_buildHalf_29 rfl rfl ?_
    refine v_icmp_ge (n := 34) (t := 94) k (⟨by omega, by omega⟩) (⟨by omega, by omega⟩) dX4_buildHalf_31 (by decide) rfl (fun c_31 => ?_) (fun c_31 => ?_)
    · refine v_vretU k hq ?_ rfl dX4_buildHalf_94
      have e9 : i = pb C p 1 := by omega
      rw [e9]
      exact ⟨rfl, rfl⟩
    · have hf := hw9.fit (r := i) (by omega)
      have hz9 := rsz_ge C p (rst C p i)
      have h4 := rst_ge C p i
      have hb9 := recS_bytes C p (fun r => bitB (rh C p r) e == b) i
      have hl9 := recS_len C p (fun r => bitB (rh C p r) e == b) i
      have hl := hsh_lt C (p * 256 + rst C p i + 2) (pb C p (rst C p i))
      refine v_aload_n (n := 35) k dX4_buildHalf_34 rfl rfl ?_
      refine v_get (n := 38) k ciX4 0 0 (by decide) fl_X4_10 rfl rfl dX4_buildHalf_35 rfl ?_
      refine v_iload_n (n := 39) k dX4_buildHalf_38 rfl rfl ?_
      refine v_iload (n := 41) k dX4_buildHalf_39 rfl rfl ?_
      refine v_rdVi (n := 44) k [1, 2] 1 (z_X1_recordHash (s := rst C p i) hP hp hg e2 (by omega)) miX1_recordHash ml_X4_247 (by decide) (by decide) rfl (by decide) rfl rfl rfl rfl (Nat.le_of_ble_eq_true rfl) ⟨Nat.zero_le _, Nat.zero_le _⟩ dX4_buildHalf_41 rfl ?_
      refine v_istore (n := 46) k dX4_buildHalf_44 rfl (by decide) rfl rfl ?_
      refine v_iload (n := 48) k dX4_buildHalf_46 rfl rfl ?_
      refine v_bipush (n := 50) k dX4_buildHalf_48 (by decide) rfl ?_
      refine v_iload_n (n := 51) k dX4_buildHalf_50 rfl rfl ?_
      refine v_isub (n := 52) k dX4_buildHalf_51 rfl ?_
      refine v_ishr (n := 53) k (((hsh C (p * 256 + rst C p i + 2) (pb C p (rst C p i)) / 2 ^ (15 - e) : Nat) : Int)) (ax_shr rfl (by omega) (by omega) (by omega)) dX4_buildHalf_52 rfl ?_
      refine v_iconst (n := 54) k dX4_buildHalf_53 rfl ?_
      refine v_iand (n := 55) k (((hsh C (p * 256 + rst C p i + 2) (pb C p (rst C p i)) / 2 ^ (15 - e) % 2 : Nat) : Int)) (ax_m1 rfl) dX4_buildHalf_54 rfl ?_
      refine v_iload_n (n := 56) k dX4_buildHalf_55 rfl rfl ?_
      refine v_icmp_ne (n := 59) (t := 73) k (⟨by omega, by omega⟩) (⟨by omega, by omega⟩) dX4_buildHalf_56 (by decide) rfl (fun c_56 => ?_) (fun c_56 => ?_)
      · refine v_iload (n := 75) k dX4_buildHalf_73 rfl rfl ?_
        refine v_aload_n (n := 76) k dX4_buildHalf_75 rfl rfl ?_
        refine v_get (n := 79) k ciX4 0 0 (by decide) fl_X4_10 rfl rfl dX4_buildHalf_76 rfl ?_
        refine v_iload_n (n := 80) k dX4_buildHalf_79 rfl rfl ?_
        refine v_iload (n := 82) k dX4_buildHalf_80 rfl rfl ?_
        refine v_rdVi (n := 85) k [1, 2] 1 (z_X1_recordSize (s := rst C p i) hP hp hg e2 (by omega)) miX1_recordSize ml_X4_189 (by decide) (by decide) rfl (by decide) rfl rfl rfl rfl (Nat.le_of_ble_eq_true rfl) ⟨Nat.zero_le _, Nat.zero_le _⟩ dX4_buildHalf_82 rfl ?_
        refine v_iadd (n := 86) k dX4_buildHalf_85 rfl ?_
        refine v_istore (n := 88) k dX4_buildHalf_86 rfl (by decide) rfl rfl ?_
        refine v_iinc (n := 91) k dX4_buildHalf_88 rfl (by decide) rfl rfl rfl ?_
        refine v_goto (t := 27) k dX4_buildHalf_91 (by decide) ?_
        refine v_lvf [(0, .ref hx), (1, .int (iI P)), (2, .int (iI E)), (3, .int (iI B)), (4, .int (iI ((pb C p 1 : Nat) : Int))), (5, .int (iI (S + ((rsz C p (rst C p i) : Nat) : Int)))), (6, .int (iI (I + 1)))] ⟨rfl, rfl, rfl, rfl, rfl, rfl, rfl, trivial⟩ ?_
        first
        | (have h0 := ih (i + 1) (S + ((rsz C p (rst C p i) : Nat) : Int)) (I + 1) (by omega) (by omega) (by omega) (by rw [e2]; rfl)
           rw [recS_f (n := i) (sel := (fun r => bitB (rh C p r) e == b)) (by
            have h8 : bitB (rh C p i) e ≠ b := by unfold bitB rh; omega
            simp [h8])] at h0
           exact h0)
        | exact ih (i + 1) (S + ((rsz C p (rst C p i) : Nat) : Int)) (I + 1) (by omega) (by omega) (by omega) (by rw [e2]; rfl)
      · refine v_aload_n (n := 60) k dX4_buildHalf_59 rfl rfl ?_
        refine v_get (n := 63) k ciX4 0 2 (by decide) fl_X4_28 rfl rfl dX4_buildHalf_60 rfl ?_
        refine v_aload_n (n := 64) k dX4_buildHalf_63 rfl rfl ?_
        refine v_get (n := 67) k ciX4 0 0 (by decide) fl_X4_10 rfl rfl dX4_buildHalf_64 rfl ?_
        refine v_iload_n (n := 68) k dX4_buildHalf_67 rfl rfl ?_
        refine v_iload (n := 70) k dX4_buildHalf_68 rfl rfl ?_
        refine v_upV (n := 73) k [3, 4, 1, 2] 3 (z_X2_copyRecord (p := p) (s := rst C p i) (d := e + 1) (rs := recS C p (fun r => bitB (rh C p r) e == b) i) hP e2 hp hg hC (by omega) (by omega) (by omega)) miX2_copyRecord ml_X4_202 (by decide) (by decide) rfl (by decide) rfl rfl rfl rfl (Nat.le_of_ble_eq_true rfl) ⟨Nat.zero_le _, Nat.zero_le _⟩ dX4_buildHalf_70 rfl ?_
        rw [← recS_t (n := i) (sel := (fun r => bitB (rh C p r) e == b)) (by
          have h8 : bitB (rh C p i) e = b := by unfold bitB rh; omega
          simp [h8])]
        rintro _ _ ⟨rfl, rfl⟩
        dsimp only [wput, List.set, Option.toList, List.nil_append, List.cons_append]
        refine v_iload (n := 75) k dX4_buildHalf_73 rfl rfl ?_
        refine v_aload_n (n := 76) k dX4_buildHalf_75 rfl rfl ?_
        refine v_get (n := 79) k ciX4 0 0 (by decide) fl_X4_10 rfl rfl dX4_buildHalf_76 rfl ?_
        refine v_iload_n (n := 80) k dX4_buildHalf_79 rfl rfl ?_
        refine v_iload (n := 82) k dX4_buildHalf_80 rfl rfl ?_
        refine v_rdVi (n := 85) k [1, 2] 1 (z_X1_recordSize (s := rst C p i) hP hp hg e2 (by omega)) miX1_recordSize ml_X4_189 (by decide) (by decide) rfl (by decide) rfl rfl rfl rfl (Nat.le_of_ble_eq_true rfl) ⟨Nat.zero_le _, Nat.zero_le _⟩ dX4_buildHalf_82 rfl ?_
        refine v_iadd (n := 86) k dX4_buildHalf_85 rfl ?_
        refine v_istore (n := 88) k dX4_buildHalf_86 rfl (by decide) rfl rfl ?_
        refine v_iinc (n := 91) k dX4_buildHalf_88 rfl (by decide) rfl rfl rfl ?_
        refine v_goto (t := 27) k dX4_buildHalf_91 (by decide) ?_
        refine v_lvf [(0, .ref hx), (1, .int (iI P)), (2, .int (iI E)), (3, .int (iI B)), (4, .int (iI ((pb C p 1 : Nat) : Int))), (5, .int (iI (S + ((rsz C p (rst C p i) : Nat) : Int)))), (6, .int (iI (I + 1)))] ⟨rfl, rfl, rfl, rfl, rfl, rfl, rfl, trivial⟩ ?_
        first
        | (have h0 := ih (i + 1) (S + ((rsz C p (rst C p i) : Nat) : Int)) (I + 1) (by omega) (by omega) (by omega) (by rw [e2]; rfl)
           rw [recS_f (n := i) (sel := (fun r => bitB (rh C p r) e == b)) (by
            have h8 : bitB (rh C p i) e ≠ b := by unfold bitB rh; omega
            simp [h8])] at h0
           exact h0)
        | exact ih (i + 1) (S + ((rsz C p (rst C p i) : Nat) : Int)) (I + 1) (by omega) (by omega) (by omega) (by rw [e2]; rfl)
set_option maxHeartbeats 1000000 in
set_option maxRecDepth 20000 in
theorem z_X4_buildHalf {D : va_G} {cI cB cJ cZ : ClassId} {hx hd hc hk hch hb hbb hh ht ha : Nat} {an : Int} {ko : Int} {pg lg : Nat} {wt al dn : Int} {C : Nat → Nat} {P E B : Int} {p e b : Nat} {f : Nat → Nat} (hP : P = (p : Int)) (hp : p < pg) (hg : pg ≤ 255) (hw9 : WB C p) (hC : ∀ j, C j < 256) (hE : E = (e : Int)) (he : e ≤ 15) (hB : B = (b : Int)) (hb9 : b < 2) : ∀ l, Up l yX4_buildHalf cX4_buildHalf 8 none ({ frames := 3, cells := 0, slots := 0, locals := 70 }) D (TY cI cB cJ cZ) [.ref hx, .int (iI P), .int (iI E), .int (iI B)] [oHash hx hd hch hb hh ht ha an, oDisk hd hc hk ko pg lg wt al dn, aN cI hc 65280 C, oPage hb hbb, aN cI hbb 256 (f)] (fun r w1 => r = none ∧ w1 = [oHash hx hd hch hb hh ht ha an, oDisk hd hc hk ko pg lg wt al dn, aN cI hc 65280 C, oPage hb hbb, aN cI hbb 256 (bpg (e + 1) (recS C p (fun r => bitB (rh C p r) e == b) (pb C p 1)))]) := by
  intro l
  refine Up_of (by decide) (Nat.le_of_ble_eq_true rfl) (fun x k hq => ?_)
  refine v_aload_n (n := 1) k dX4_buildHalf_0 rfl rfl ?_
  refine v_get (n := 4) k ciX4 0 2 (by decide) fl_X4_28 rfl rfl dX4_buildHalf_1 rfl ?_
  refine v_iload_n (n := 5) k dX4_buildHalf_4 rfl rfl ?_
  refine v_iconst (n := 6) k dX4_buildHalf_5 rfl ?_
  refine v_iadd (n := 7) k dX4_buildHalf_6 rfl ?_
  refine v_upV (n := 10) k [3, 4] 3 (z_X2_startBucket (v := e + 1) (by omega)) miX2_startBucket ml_X4_196 (by decide) (by decide) rfl (by decide) rfl rfl rfl rfl (Nat.le_of_ble_eq_true rfl) ⟨Nat.zero_le _, Nat.zero_le _⟩ dX4_buildHalf_7 rfl ?_
  rw [bpg_0 (by omega)]
  rintro _ _ ⟨rfl, rfl⟩
  dsimp only [wput, List.set, Option.toList, List.nil_append, List.cons_append]
  refine v_aload_n (n := 11) k dX4_buildHalf_10 rfl rfl ?_
  refine v_get (n := 14) k ciX4 0 0 (by decide) fl_X4_10 rfl rfl dX4_buildHalf_11 rfl ?_
  refine v_iload_n (n := 15) k dX4_buildHalf_14 rfl rfl ?_
  refine v_iconst (n := 16) k dX4_buildHalf_15 rfl ?_
  refine v_rdVi (n := 19) k [1, 2] 1 (z_X1_at (p := p) (i := 1) hP rfl hp (by omega) hg) miX1_at ml_X4_130 (by decide) (by decide) rfl (by decide) rfl rfl rfl rfl (Nat.le_of_ble_eq_true rfl) ⟨Nat.zero_le _, Nat.zero_le _⟩ dX4_buildHalf_16 rfl ?_
  refine v_istore (n := 21) k dX4_buildHalf_19 rfl (by decide) rfl rfl ?_
  refine v_iconst (n := 22) k dX4_buildHalf_21 rfl ?_
  refine v_istore (n := 24) k dX4_buildHalf_22 rfl (by decide) rfl rfl ?_
  refine v_iconst (n := 25) k dX4_buildHalf_24 rfl ?_
  refine v_istore (n := 27) k dX4_buildHalf_25 rfl (by decide) rfl rfl ?_
  exact lp_X4_buildHalf k hq hP hp hg hw9 hC hE he hB hb9 (pb C p 1 + 1) 0 4 0 (by omega) (by omega) rfl rfl
def less (C : Nat → Nat) (p : Nat) (T : Nat → Nat) (ks : Nat) : Nat := match fnd C p T ks with
  | some r => rsz C p (rst C p r)
  | none => 0
def plc (C : Nat → Nat) (p : Nat) (T : Nat → Nat) (ks z : Nat) : Bool := decide (bL C p - less C p T ks + 2 + z ≤ 252)
theorem fnd_lt {C : Nat → Nat} {p : Nat} {T : Nat → Nat} {ks r : Nat} (h : fnd C p T ks = some r) : r < pb C p 1 := by
  have := List.mem_of_find?_eq_some h
  exact List.mem_range.mp this
set_option maxHeartbeats 1000000 in
set_option maxRecDepth 20000 in
theorem z_X4_hasPlace {D : va_G} {cI cB cJ cZ : ClassId} {hx hd hc hk hch hb hbb hh ht ha : Nat} {an : Int} {ko : Int} {pg lg : Nat} {wt al dn : Int} {C : Nat → Nat} {htb : Nat} {sz : Int} {T : Nat → Nat} {P KK Z : Int} {p ks z : Nat} (hP : P = (p : Int)) (hp : p < pg) (hg : pg ≤ 255) (hw9 : WB C p) (hC : ∀ j, C j < 256) (hK : KK = (ks : Int)) (hks : ks ≤ 48) (hZ : Z = (z : Int)) (hz : z ≤ 48) (hT : ∀ j, T j < 256) : ∀ l, Rd l yX4_hasPlace cX4_hasPlace 6 (some .boolean) ({ frames := 3, cells := 0, slots := 0, locals := 73 }) D (TY cI cB cJ cZ) [.ref hx, .int (iI P), .int (iI KK), .int (iI Z)] [oHash hx hd hch hb hh ht ha an, oDisk hd hc hk ko pg lg wt al dn, aN cI hc 65280 C, oTape ht htb sz, aN cI htb 48 T] (fun v => v = some (.int (iI (bI (plc C p T ks z))))) := by
  intro l
  refine Rd_of (by decide) (Nat.le_of_ble_eq_true rfl) (fun x k hq => ?_)
  have hwl := hw9.2.2
  rcases (by
    cases fnd C p T ks with
    | some r => exact Or.inl ⟨r, rfl⟩
    | none => exact Or.inr rfl : (∃ r, fnd C p T ks = some r) ∨ fnd C p T ks = none) with ⟨r0, hfn⟩ | hfn
  · have hr0 := fnd_lt hfn
    have hf := hw9.fit hr0
    have hz9 := rsz_ge C p (rst C p r0)
    have h4 := rst_ge C p r0
    have hfi : fndI C p T ks = ((rst C p r0 : Nat) : Int) := by unfold fndI; rw [hfn]
    have hle : less C p T ks = rsz C p (rst C p r0) := by unfold less; rw [hfn]
    refine v_aload_n (n := 1) k dX4_hasPlace_0 rfl rfl ?_
    refine v_get (n := 4) k ciX4 0 0 (by decide) fl_X4_10 rfl rfl dX4_hasPlace_1 rfl ?_
    refine v_iload_n (n := 5) k dX4_hasPlace_4 rfl rfl ?_
    refine v_aload_n (n := 6) k dX4_hasPlace_5 rfl rfl ?_
    refine v_get (n := 9) k ciX4 0 4 (by decide) fl_X4_38 rfl rfl dX4_hasPlace_6 rfl ?_
    refine v_iload_n (n := 10) k dX4_hasPlace_9 rfl rfl ?_
    refine v_rdVi (n := 13) k [1, 2, 3, 4] 1 (z_X1_find (p := p) (z := ks) hP hp hg hK hks hw9 hC hT) miX1_find ml_X4_112 (by decide) (by decide) rfl (by decide) rfl rfl rfl rfl (Nat.le_of_ble_eq_true rfl) ⟨Nat.zero_le _, Nat.zero_le _⟩ dX4_hasPlace_10 rfl ?_
    rw [hfi]
    refine v_istore (n := 15) k dX4_hasPlace_13 rfl (by decide) rfl rfl ?_
    refine v_aload_n (n := 16) k dX4_hasPlace_15 rfl rfl ?_
    refine v_get (n := 19) k ciX4 0 0 (by decide) fl_X4_10 rfl rfl dX4_hasPlace_16 rfl ?_
    refine v_iload_n (n := 20) k dX4_hasPlace_19 rfl rfl ?_
    refine v_rdVi (n := 23) k [1, 2] 1 (z_X1_recordBytes (p := p) hP hp hg) miX1_recordBytes ml_X4_148 (by decide) (by decide) rfl (by decide) rfl rfl rfl rfl (Nat.le_of_ble_eq_true rfl) ⟨Nat.zero_le _, Nat.zero_le _⟩ dX4_hasPlace_20 rfl ?_
    refine v_iload (n := 25) k dX4_hasPlace_23 rfl rfl ?_
    refine v_iconst (n := 26) k dX4_hasPlace_25 rfl ?_
    refine v_icmp_ne (n := 29) (t := 33) k (⟨by omega, by omega⟩) (⟨by omega, by omega⟩) dX4_hasPlace_26 (by decide) rfl (fun c_26 => ?_) (fun c_26 => ?_)
    · refine v_aload_n (n := 34) k dX4_hasPlace_33 rfl rfl ?_
      refine v_get (n := 37) k ciX4 0 0 (by decide) fl_X4_10 rfl rfl dX4_hasPlace_34 rfl ?_
      refine v_iload_n (n := 38) k dX4_hasPlace_37 rfl rfl ?_
      refine v_iload (n := 40) k dX4_hasPlace_38 rfl rfl ?_
      refine v_rdVi (n := 43) k [1, 2] 1 (z_X1_recordSize (p := p) (s := rst C p r0) hP hp hg rfl (by omega)) miX1_recordSize ml_X4_189 (by decide) (by decide) rfl (by decide) rfl rfl rfl rfl (Nat.le_of_ble_eq_true rfl) ⟨Nat.zero_le _, Nat.zero_le _⟩ dX4_hasPlace_40 rfl ?_
      refine v_isub (n := 44) k dX4_hasPlace_43 rfl ?_
      refine v_istore (n := 46) k dX4_hasPlace_44 rfl (by decide) rfl rfl ?_
      refine v_iload (n := 48) k dX4_hasPlace_46 rfl rfl ?_
      refine v_iconst (n := 49) k dX4_hasPlace_48 rfl ?_
      refine v_iadd (n := 50) k dX4_hasPlace_49 rfl ?_
      refine v_iload_n (n := 51) k dX4_hasPlace_50 rfl rfl ?_
      refine v_iadd (n := 52) k dX4_hasPlace_51 rfl ?_
      refine v_sipush (n := 55) k dX4_hasPlace_52 (by decide) rfl ?_
      refine v_icmp_gt (n := 58) (t := 62) k (⟨by omega, by omega⟩) (⟨by omega, by omega⟩) dX4_hasPlace_55 (by decide) rfl (fun c_55 => ?_) (fun c_55 => ?_)
      · refine v_iconst (n := 63) k dX4_hasPlace_62 rfl ?_
        refine v_zretR k (by decide) hq ?_ dX4_hasPlace_63
        first
        | rw [bI_t (show plc C p T ks z = true from decide_eq_true (by rw [hle]; omega))]
        | rw [bI_f (show plc C p T ks z = false from decide_eq_false (by rw [hle]; omega))]
      · refine v_iconst (n := 59) k dX4_hasPlace_58 rfl ?_
        refine v_goto (t := 63) k dX4_hasPlace_59 (by decide) ?_
        refine v_zretR k (by decide) hq ?_ dX4_hasPlace_63
        first
        | rw [bI_t (show plc C p T ks z = true from decide_eq_true (by rw [hle]; omega))]
        | rw [bI_f (show plc C p T ks z = false from decide_eq_false (by rw [hle]; omega))]
    · exfalso; omega
  · have hfi : fndI C p T ks = -1 := by unfold fndI; rw [hfn]
    have hle : less C p T ks = 0 := by unfold less; rw [hfn]
    refine v_aload_n (n := 1) k dX4_hasPlace_0 rfl rfl ?_
    refine v_get (n := 4) k ciX4 0 0 (by decide) fl_X4_10 rfl rfl dX4_hasPlace_1 rfl ?_
    refine v_iload_n (n := 5) k dX4_hasPlace_4 rfl rfl ?_
    refine v_aload_n (n := 6) k dX4_hasPlace_5 rfl rfl ?_
    refine v_get (n := 9) k ciX4 0 4 (by decide) fl_X4_38 rfl rfl dX4_hasPlace_6 rfl ?_
    refine v_iload_n (n := 10) k dX4_hasPlace_9 rfl rfl ?_
    refine v_rdVi (n := 13) k [1, 2, 3, 4] 1 (z_X1_find (p := p) (z := ks) hP hp hg hK hks hw9 hC hT) miX1_find ml_X4_112 (by decide) (by decide) rfl (by decide) rfl rfl rfl rfl (Nat.le_of_ble_eq_true rfl) ⟨Nat.zero_le _, Nat.zero_le _⟩ dX4_hasPlace_10 rfl ?_
    rw [hfi]
    refine v_istore (n := 15) k dX4_hasPlace_13 rfl (by decide) rfl rfl ?_
    refine v_aload_n (n := 16) k dX4_hasPlace_15 rfl rfl ?_
    refine v_get (n := 19) k ciX4 0 0 (by decide) fl_X4_10 rfl rfl dX4_hasPlace_16 rfl ?_
    refine v_iload_n (n := 20) k dX4_hasPlace_19 rfl rfl ?_
    refine v_rdVi (n := 23) k [1, 2] 1 (z_X1_recordBytes (p := p) hP hp hg) miX1_recordBytes ml_X4_148 (by decide) (by decide) rfl (by decide) rfl rfl rfl rfl (Nat.le_of_ble_eq_true rfl) ⟨Nat.zero_le _, Nat.zero_le _⟩ dX4_hasPlace_20 rfl ?_
    refine v_iload (n := 25) k dX4_hasPlace_23 rfl rfl ?_
    refine v_iconst (n := 26) k dX4_hasPlace_25 rfl ?_
    refine v_icmp_ne (n := 29) (t := 33) k (⟨by omega, by omega⟩) (⟨by omega, by omega⟩) dX4_hasPlace_26 (by decide) rfl (fun c_26 => ?_) (fun c_26 => ?_)
    · exfalso; omega
    · refine v_iconst (n := 30) k dX4_hasPlace_29 rfl ?_
      refine v_goto (t := 43) k dX4_hasPlace_30 (by decide) ?_
      refine v_isub (n := 44) k dX4_hasPlace_43 rfl ?_
      refine v_istore (n := 46) k dX4_hasPlace_44 rfl (by decide) rfl rfl ?_
      refine v_iload (n := 48) k dX4_hasPlace_46 rfl rfl ?_
      refine v_iconst (n := 49) k dX4_hasPlace_48 rfl ?_
      refine v_iadd (n := 50) k dX4_hasPlace_49 rfl ?_
      refine v_iload_n (n := 51) k dX4_hasPlace_50 rfl rfl ?_
      refine v_iadd (n := 52) k dX4_hasPlace_51 rfl ?_
      refine v_sipush (n := 55) k dX4_hasPlace_52 (by decide) rfl ?_
      refine v_icmp_gt (n := 58) (t := 62) k (⟨by omega, by omega⟩) (⟨by omega, by omega⟩) dX4_hasPlace_55 (by decide) rfl (fun c_55 => ?_) (fun c_55 => ?_)
      · refine v_iconst (n := 63) k dX4_hasPlace_62 rfl ?_
        refine v_zretR k (by decide) hq ?_ dX4_hasPlace_63
        first
        | rw [bI_t (show plc C p T ks z = true from decide_eq_true (by rw [hle]; omega))]
        | rw [bI_f (show plc C p T ks z = false from decide_eq_false (by rw [hle]; omega))]
      · refine v_iconst (n := 59) k dX4_hasPlace_58 rfl ?_
        refine v_goto (t := 63) k dX4_hasPlace_59 (by decide) ?_
        refine v_zretR k (by decide) hq ?_ dX4_hasPlace_63
        first
        | rw [bI_t (show plc C p T ks z = true from decide_eq_true (by rw [hle]; omega))]
        | rw [bI_f (show plc C p T ks z = false from decide_eq_false (by rw [hle]; omega))]
set_option maxHeartbeats 1000000 in
set_option maxRecDepth 20000 in
theorem z_X4_directoryPagesOf {D : va_G} {cI cB cJ cZ : ClassId} {F B : Int} {a b : Nat} (hF : F = (a : Int)) (hB : B = (b : Int)) (ha : a < b) (hb : b < 1000000) : ∀ l, Rd l yX4_directoryPagesOf cX4_directoryPagesOf 2 (some .int) ({ frames := 0, cells := 0, slots := 0, locals := 0 }) D (TY cI cB cJ cZ) [.int (iI F), .int (iI B)] [] (fun v => v = some (.int (iI (((b - 1) / 256 - a / 256 + 1 : Nat) : Int)))) := by
  intro l
  refine Rd_of (by decide) (Nat.le_of_ble_eq_true rfl) (fun x k hq => ?_)
  refine v_iload_n (n := 1) k dX4_directoryPagesOf_0 rfl rfl ?_
  refine v_iconst (n := 2) k dX4_directoryPagesOf_1 rfl ?_
  refine v_isub (n := 3) k dX4_directoryPagesOf_2 rfl ?_
  refine v_sipush (n := 6) k dX4_directoryPagesOf_3 (by decide) rfl ?_
  refine v_idiv (n := 7) k ((((b - 1) / 256 : Nat) : Int)) (ax_ne0 (by omega) (by omega)) (ax_div (by omega) rfl (by omega) (by omega) (by omega)) dX4_directoryPagesOf_6 rfl ?_
  refine v_iload_n (n := 8) k dX4_directoryPagesOf_7 rfl rfl ?_
  refine v_sipush (n := 11) k dX4_directoryPagesOf_8 (by decide) rfl ?_
  refine v_idiv (n := 12) k (((a / 256 : Nat) : Int)) (ax_ne0 (by omega) (by omega)) (ax_div hF rfl (by omega) (by omega) (by omega)) dX4_directoryPagesOf_11 rfl ?_
  refine v_isub (n := 13) k dX4_directoryPagesOf_12 rfl ?_
  refine v_iconst (n := 14) k dX4_directoryPagesOf_13 rfl ?_
  refine v_iadd (n := 15) k dX4_directoryPagesOf_14 rfl ?_
  refine v_iretR k hq ?_ dX4_directoryPagesOf_15
  exact congrArg (fun z => some (Value.int (iI z))) (by omega)
