theorem and_high {i k : Nat} (hi : i < 4294967296) (hk : k ≤ 32) : i &&& (4294967296 - 2 ^ k) = i / 2 ^ k * 2 ^ k := by
  have e : 4294967296 - 2 ^ k = 2 ^ k * (2 ^ (32 - k) - 1) := by
    rw [Nat.mul_sub, ← Nat.pow_add, show k + (32 - k) = 32 by omega]
    omega
  rw [e]
  apply Nat.eq_of_testBit_eq
  intro j
  rw [Nat.testBit_and, Nat.testBit_two_pow_mul, Nat.testBit_two_pow_sub_one, Nat.mul_comm (i / 2 ^ k), Nat.testBit_two_pow_mul, Nat.testBit_div_two_pow]
  rcases Nat.lt_or_ge j k with h | h
  · have h1 : ¬ j ≥ k := by omega
    simp [h1]
  · have h1 : j ≥ k := h
    rw [show j - k + k = j by omega]
    rcases Nat.lt_or_ge j 32 with g | g
    · have h2 : j - k < 32 - k := by omega
      simp [h1, h2]
    · have h2 : i.testBit j = false := Nat.testBit_lt_two_pow (Nat.lt_of_lt_of_le hi (Nat.pow_le_pow_right (n := 2) (i := 32) (by decide) g))
      simp [h2]
theorem ax_negmask {z y : Int} {i k : Nat} (hz : z = (i : Int)) (hy : y = -((2 ^ k : Nat) : Int)) (hi : i < 2147483648) (hk : k ≤ 31) : iI z &&& iI y = iI ((i / 2 ^ k * 2 ^ k : Nat) : Int) := by
  subst hz
  subst hy
  have h1 : 2 ^ k ≤ 2 ^ 31 := Nat.pow_le_pow_right (by decide) hk
  have h2 : (2 : Nat) ^ 31 = 2147483648 := by decide
  have e : iI (-((2 ^ k : Nat) : Int)) = iI ((4294967296 - 2 ^ k : Nat) : Int) := by
    have e1 : ((4294967296 - 2 ^ k : Nat) : Int) = -((2 ^ k : Nat) : Int) + 4294967296 := by omega
    rw [e1, ← iI_add]
    have e2 : iI 4294967296 = 0 := by decide
    rw [e2, Int32.add_zero]
  rw [e, ax_and, and_high (by omega) (by omega)]
theorem hsh_congr {f g : Nat → Nat} {a b n : Nat} (h : ∀ j, j < n → f (a + j) = g (b + j)) : hsh f a n = hsh g b n := by
  induction n with
  | zero => rfl
  | succ n ih =>
    unfold hsh
    rw [ih (fun j hj => h j (by omega)), h n (by omega)]
/-- two disks that have the same page p -/
def PG (C C' : Nat → Nat) (p : Nat) : Prop := ∀ i, i < 256 → pb C' p i = pb C p i
theorem pg_rsz {p : Nat} {C C' : Nat → Nat} (h : PG C C' p) {s : Nat} (hs : s + 1 < 256) : rsz C' p s = rsz C p s := by
  unfold rsz
  rw [h s (by omega), h (s + 1) hs]
theorem pg_rst {p : Nat} {C C' : Nat → Nat} (h : PG C C' p) (hb : WB C p) : ∀ r, r ≤ pb C p 1 → rst C' p r = rst C p r := by
  intro r
  induction r with
  | zero => intro _; rfl
  | succ r ih =>
    intro hr
    have e := ih (by omega)
    have hf := hb.fit (r := r) (by omega)
    have hz := rsz_ge C p (rst C p r)
    show rst C' p r + rsz C' p (rst C' p r) = rst C p r + rsz C p (rst C p r)
    rw [e, pg_rsz h (by omega)]
theorem pg_bL {p : Nat} {C C' : Nat → Nat} (h : PG C C' p) : bL C' p = bL C p := by
  unfold bL
  rw [h 2 (by omega), h 3 (by omega)]
theorem pg_WB {p : Nat} {C C' : Nat → Nat} (h : PG C C' p) (hb : WB C p) : WB C' p := by
  have e1 : pb C' p 1 = pb C p 1 := h 1 (by omega)
  refine ⟨fun r hr => ?_, ?_, ?_⟩
  · rw [e1] at hr
    have hf := hb.fit hr
    have hz := rsz_ge C p (rst C p r)
    rw [pg_rst h hb r (by omega), h _ (by omega), h _ (by omega)]
    exact hb.1 r hr
  · rw [e1, pg_rst h hb _ (Nat.le_refl _), pg_bL h]
    exact hb.2.1
  · rw [pg_bL h]
    exact hb.2.2
theorem pg_recL {p : Nat} {C C' : Nat → Nat} (h : PG C C' p) {s : Nat} (hs : s + rsz C p s ≤ 256) : recL C' p s = recL C p s := by
  have hz := rsz_ge C p s
  unfold recL
  rw [pg_rsz h (by omega)]
  apply List.map_congr_left
  intro j hj
  have := List.mem_range.mp hj
  exact h _ (by omega)
theorem pg_rh {p : Nat} {C C' : Nat → Nat} (h : PG C C' p) (hb : WB C p) {r : Nat} (hr : r < pb C p 1) : rh C' p r = rh C p r := by
  have hf := hb.fit hr
  have hz := rsz_ge C p (rst C p r)
  unfold rh
  rw [pg_rst h hb r (by omega), h _ (by omega)]
  apply hsh_congr
  intro j hj
  have := h (rst C p r + 2 + j) (by omega)
  unfold pb at this
  rw [show p * 256 + rst C p r + 2 + j = p * 256 + (rst C p r + 2 + j) by omega]
  exact this
theorem pg_recS {p : Nat} {C C' : Nat → Nat} {sel sel' : Nat → Bool} (h : PG C C' p) (hb : WB C p) (hs : ∀ r, r < pb C p 1 → sel' r = sel r) : recS C' p sel' (pb C' p 1) = recS C p sel (pb C p 1) := by
  rw [h 1 (by omega)]
  have key : ∀ n, n ≤ pb C p 1 → recS C' p sel' n = recS C p sel n := by
    intro n
    induction n with
    | zero => intro _; rfl
    | succ n ih =>
      intro hn
      have hf := hb.fit (r := n) (by omega)
      have e := hs n (by omega)
      cases hv : sel n with
      | true => rw [recS_t (by rw [e, hv]), recS_t hv, ih (by omega), pg_rst h hb n (by omega), pg_recL h hf.2]
      | false => rw [recS_f (by rw [e, hv]), recS_f hv, ih (by omega)]
  exact key _ (Nat.le_refl _)
/-- the records of page p whose bit e is b -/
def halfL (C : Nat → Nat) (p e b : Nat) : List (List Nat) := recS C p (fun r => bitB (rh C p r) e == b) (pb C p 1)
theorem pg_half {p : Nat} {C C' : Nat → Nat} (h : PG C C' p) (hb : WB C p) (e b : Nat) : halfL C' p e b = halfL C p e b := pg_recS h hb (fun r hr => by rw [pg_rh h hb hr])
theorem AGR.pg {lg p : Nat} {C C' : Nat → Nat} (h : AGR lg C C') (hp : lg + 2 ≤ p) : PG C C' p := h p (Or.inr hp)
/-- the first of the entries that tell the bucket of hash h, its depth being e -/
def fstE (C : Nat → Nat) (h e : Nat) : Nat := idx C h / 2 ^ (C 0 - e) * 2 ^ (C 0 - e)
def spF (C : Nat → Nat) (h e : Nat) : Nat := fstE C h e + 2 ^ (C 0 - e) / 2
def spB (C : Nat → Nat) (h e : Nat) : Nat := fstE C h e + 2 ^ (C 0 - e)
/-- how many of the directory's pages have one of the entries a to b - 1 -/
def dpO (a b : Nat) : Nat := (b - 1) / 256 + 1 - a / 256
/-- the CHANGE of a SPLIT of page p for the hash h into the free page q -/
def spC (C : Nat → Nat) (p h q : Nat) : List (Nat × (Nat → Nat)) := (p, bpg (pb C p 0 + 1) (halfL C p (pb C p 0) 0)) :: (q, bpg (pb C p 0 + 1) (halfL C p (pb C p 0) 1)) :: rtL C (spF C h (pb C p 0)) (spB C h (pb C p 0)) q (dpO (spF C h (pb C p 0)) (spB C h (pb C p 0))) (spF C h (pb C p 0) / 256)
def sSpl (a : DA) (pg lg p h : Nat) : Int × DA := match frN a.1 pg lg 0 with
  | none => (1, a)
  | some q => if lg < 2 + dpO (spF a.1 h (pb a.1 p 0)) (spB a.1 h (pb a.1 p 0)) then (2, a) else match sChg a (spC a.1 p h q) with
    | (true, a') => (0, a')
    | (false, a') => (4, a')
theorem spB_le {C : Nat → Nat} {h e : Nat} (hh : h < 65536) (hd : C 0 ≤ 15) (he : e ≤ C 0) : spB C h e ≤ 2 ^ C 0 := by
  have h1 := idx_lt hh hd
  have e1 : 2 ^ C 0 = 2 ^ e * 2 ^ (C 0 - e) := by rw [← Nat.pow_add]; congr 1; omega
  unfold spB fstE
  have h2 : idx C h / 2 ^ (C 0 - e) < 2 ^ e := Nat.div_lt_of_lt_mul (by rw [Nat.mul_comm, ← e1]; exact h1)
  rw [e1, ← Nat.succ_mul]
  exact Nat.mul_le_mul_right _ h2
theorem bpg_lt {d : Nat} {rs : List (List Nat)} (hd : d < 256) (hn : rs.length < 256) (hL : rs.flatten.length < 256) (hb : ∀ r ∈ rs, ∀ x ∈ r, x < 256) : ∀ j, bpg d rs j < 256 := by
  intro j
  unfold bpg bpi
  split
  · exact hd
  split
  · exact hn
  split
  · omega
  split
  · omega
  · rw [List.getD_eq_getElem?_getD]
    cases h : rs.flatten[j - 4]? with
    | none => decide
    | some x =>
      have hx := List.mem_of_getElem? h
      obtain ⟨r, hr, hx⟩ := List.mem_flatten.mp hx
      exact hb r hr x hx
theorem recS_lt {C : Nat → Nat} {p : Nat} {sel : Nat → Bool} {n : Nat} (hC : ∀ j, C j < 256) : ∀ r ∈ recS C p sel n, ∀ x ∈ r, x < 256 := by
  intro r hr x hx
  unfold recS at hr
  obtain ⟨t, -, rfl⟩ := List.mem_map.mp hr
  unfold recL at hx
  obtain ⟨j, -, rfl⟩ := List.mem_map.mp hx
  exact hC _
theorem half_lt {C : Nat → Nat} {p d e b : Nat} (hC : ∀ j, C j < 256) (hb : WB C p) (hd : d < 256) : ∀ j, bpg d (halfL C p e b) j < 256 := by
  have h1 := hb.count
  have h2 := hb.2.2
  have h3 := hb.2.1
  have h4 := recS_len C p (fun r => bitB (rh C p r) e == b) (pb C p 1)
  have h5 := recS_bytes C p (fun r => bitB (rh C p r) e == b) (pb C p 1)
  unfold halfL
  exact bpg_lt hd (by omega) (by omega) (recS_lt hC)
theorem frN_in {C : Nat → Nat} {pg lg a q : Nat} (h : frN C pg lg a = some q) : q < pg ∧ kdN C lg q = 0 ∧ lg + 2 ≤ q := by
  have h1 := List.mem_of_find?_eq_some h
  have h2 := List.find?_some h
  simp at h2
  have h3 := h2.2
  refine ⟨List.mem_range.mp h1, h3, ?_⟩
  unfold kdN at h3
  rcases Nat.lt_or_ge q (lg + 2) with g | g
  · exfalso
    by_cases e0 : q = 0
    · rw [if_pos e0] at h3; omega
    · rw [if_neg e0] at h3
      by_cases e1 : q = 1
      · rw [if_pos e1] at h3; omega
      · rw [if_neg e1, if_pos g] at h3; omega
  · exact g
theorem frI_in {C : Nat → Nat} {pg lg a : Nat} (hg : pg ≤ 255) : in32 (frI C pg lg a) := by
  unfold frI
  cases hf : frN C pg lg a with
  | some q =>
    have := (frN_in hf).1
    show in32 (q : Int)
    exact ⟨by omega, by omega⟩
  | none =>
    show in32 (-1)
    exact ⟨by omega, by omega⟩
/-- the images of a CHANGE, one by one -/
theorem sImg_t {a a' : DA} {i p : Nat} {f : Nat → Nat} {l : List (Nat × (Nat → Nat))} (h : sW a (2 + i) f = (true, a')) : sImg a i ((p, f) :: l) = sImg a' (i + 1) l := by
  rw [sImg]
  have h2 : sW a (2 + i) (p, f).2 = (true, a') := h
  rw [h2]
theorem sImg_f {a a' : DA} {i p : Nat} {f : Nat → Nat} {l : List (Nat × (Nat → Nat))} (h : sW a (2 + i) f = (false, a')) : sImg a i ((p, f) :: l) = (false, a') := by
  rw [sImg]
  have h2 : sW a (2 + i) (p, f).2 = (false, a') := h
  rw [h2]
theorem sChg_f {a a' : DA} {chs : List (Nat × (Nat → Nat))} (h : sImg a 0 chs = (false, a')) : sChg a chs = (false, a') := by
  unfold sChg
  rw [h]
theorem sChg_t {a a' a'' : DA} {b : Bool} {chs : List (Nat × (Nat → Nat))} (h : sImg a 0 chs = (true, a')) (h2 : sFin a' (chs.map Prod.fst) = (b, a'')) : sChg a chs = (b, a'') := by
  unfold sChg
  rw [h, ← h2]
/-- the status of a CHANGE -/
def stC (r : Bool × DA) : Int × DA := match r with
  | (true, a') => (0, a')
  | (false, a') => (4, a')
set_option maxHeartbeats 1000000 in
set_option maxRecDepth 20000 in
theorem z_X4_split {D : va_G} {cI cB cJ cZ : ClassId} {hx hd hc hk hch hb hbb hh ht ha hj hi hjb hib : Nat} {an : Int} {pg lg : Nat} {P H : Int} {p h : Nat} {C : Nat → Nat} {wt al dn ko : Int} {K fb fj fi : Nat → Nat} (hw : DW C pg lg) (hlp : lg + 4 ≤ pg) (hP : P = (p : Int)) (hp1 : lg + 2 ≤ p) (hp2 : p < pg) (hH : H = (h : Int)) (hh9 : h < 65536) (hb9 : WB C p) (he : pb C p 0 < C 0) (hks : KS ko K C pg lg) (hal : in32 al) : ∀ l, Up l yX4_split cX4_split 9 (some .int) ({ frames := 5, cells := 0, slots := 0, locals := 135 }) D (TY cI cB cJ cZ) [.ref hx, .int (iI P), .int (iI H)] [oHash hx hd hch hb hh ht ha an, oDisk hd hc hk ko pg lg wt al dn, aN cI hc 65280 C, aN cI hk 255 K, oChange hch hd hj hi, oPage hb hbb, aN cI hbb 256 (fb), oPage hj hjb, aN cI hjb 256 (fj), oPage hi hib, aN cI hib 256 (fi)] (fun r w1 => ∃ s2 C2 wt2 al2 dn2 ko2 K2 fb fj fi, sSpl (C, wt, al, dn) pg lg p h = (s2, C2, wt2, al2, dn2) ∧ KS ko2 K2 C2 pg lg ∧ in32 al2 ∧ r = some (.int (iI s2)) ∧ w1 = [oHash hx hd hch hb hh ht ha an, oDisk hd hc hk ko2 pg lg wt2 al2 dn2, aN cI hc 65280 C2, aN cI hk 255 K2, oChange hch hd hj hi, oPage hb hbb, aN cI hbb 256 (fb), oPage hj hjb, aN cI hjb 256 (fj), oPage hi hib, aN cI hib 256 (fi)]) := by
  intro l
  refine Up_of (by decide) (Nat.le_of_ble_eq_true rfl) (fun x k hq => ?_)
  obtain ⟨w1, w2, w3, w4, w5, w6, w7⟩ := id hw
  have hi9 := idx_lt (C := C) hh9 w4
  have h15 : 2 ^ C 0 ≤ 32768 := Nat.le_trans (Nat.pow_le_pow_right (n := 2) (j := 15) (by decide) w4) (by decide)
  have hsp : 2 ^ (C 0 - pb C p 0) ≤ 2 ^ C 0 := Nat.pow_le_pow_right (by decide) (by omega)
  have hs2 : 2 ^ (C 0 - pb C p 0) = 2 * (2 ^ (C 0 - pb C p 0) / 2) ∧ 0 < 2 ^ (C 0 - pb C p 0) / 2 := by
    have e9 : C 0 - pb C p 0 = (C 0 - pb C p 0 - 1) + 1 := by omega
    have h9 := Nat.two_pow_pos (C 0 - pb C p 0 - 1)
    rw [e9, Nat.pow_succ]
    omega
  have hbe := spB_le (e := pb C p 0) hh9 w4 (by omega)
  obtain ⟨sF, hgF⟩ : ∃ z, spF C h (pb C p 0) = z := ⟨_, rfl⟩
  obtain ⟨sB, hgB⟩ : ∃ z, spB C h (pb C p 0) = z := ⟨_, rfl⟩
  have hF : sF = fstE C h (pb C p 0) + 2 ^ (C 0 - pb C p 0) / 2 := hgF.symm
  have hB : sB = fstE C h (pb C p 0) + 2 ^ (C 0 - pb C p 0) := hgB.symm
  rw [hgB] at hbe
  have hpFi : (sB - 1) / 256 < pF (C 0) := pF_idx (by omega)
  have h8 := pF_lt w4
  have hrts : ∀ q : Nat, ¬ lg < 2 + dpO sF sB → frN C pg lg 0 = some q → sSpl (C, wt, al, dn) pg lg p h = stC (sChg (C, wt, al, dn) ((p, bpg (pb C p 0 + 1) (halfL C p (pb C p 0) 0)) :: (q, bpg (pb C p 0 + 1) (halfL C p (pb C p 0) 1)) :: rtL C sF sB q (dpO sF sB) (sF / 256))) := by
    intro q hnl hfq
    unfold sSpl
    rw [show frN (C, wt, al, dn).1 pg lg 0 = some q from hfq]
    show (if lg < 2 + dpO (spF C h (pb C p 0)) (spB C h (pb C p 0)) then _ else _) = _
    rw [hgF, hgB, if_neg hnl]
    unfold spC
    show (match sChg (C, wt, al, dn) ((p, bpg (pb C p 0 + 1) (halfL C p (pb C p 0) 0)) :: (q, bpg (pb C p 0 + 1) (halfL C p (pb C p 0) 1)) :: rtL C (spF C h (pb C p 0)) (spB C h (pb C p 0)) q (dpO (spF C h (pb C p 0)) (spB C h (pb C p 0))) (spF C h (pb C p 0) / 256)) with
      | (true, a') => ((0 : Int), a')
      | (false, a') => (4, a')) = _
    rw [hgF, hgB]
    rfl
  refine v_aload_n (n := 1) k dX4_split_0 rfl rfl ?_
  refine v_get (n := 4) k ciX4 0 0 (by decide) fl_X4_10 rfl rfl dX4_split_1 rfl ?_
  refine v_iload_n (n := 5) k dX4_split_4 rfl rfl ?_
  refine v_iconst (n := 6) k dX4_split_5 rfl ?_
  refine v_rdVi (n := 9) k [1, 2] 1 (z_X1_at (p := p) (i := 0) hP rfl hp2 (by omega) w2) miX1_at ml_X4_130 (by decide) (by decide) rfl (by decide) rfl rfl rfl rfl (Nat.le_of_ble_eq_true rfl) ⟨Nat.zero_le _, Nat.zero_le _⟩ dX4_split_6 rfl ?_
  refine v_istore_n (n := 10) k dX4_split_9 rfl (by decide) rfl rfl ?_
  refine v_iconst (n := 11) k dX4_split_10 rfl ?_
  refine v_aload_n (n := 12) k dX4_split_11 rfl rfl ?_
  refine v_get (n := 15) k ciX4 0 0 (by decide) fl_X4_10 rfl rfl dX4_split_12 rfl ?_
  refine v_rdVi (n := 18) k [1, 2] 1 (z_X1_depth hw) miX1_depth ml_X4_160 (by decide) (by decide) rfl (by decide) rfl rfl rfl rfl (Nat.le_of_ble_eq_true rfl) ⟨Nat.zero_le _, Nat.zero_le _⟩ dX4_split_15 rfl ?_
  refine v_iload_n (n := 19) k dX4_split_18 rfl rfl ?_
  refine v_isub (n := 20) k dX4_split_19 rfl ?_
  refine v_ishl (n := 21) k (((1 * 2 ^ (C 0 - pb C p 0) : Nat) : Int)) (ax_shl rfl (by omega) (by omega) (by omega)) dX4_split_20 rfl ?_
  refine v_istore (n := 23) k dX4_split_21 rfl (by decide) rfl rfl ?_
  refine v_aload_n (n := 24) k dX4_split_23 rfl rfl ?_
  refine v_get (n := 27) k ciX4 0 0 (by decide) fl_X4_10 rfl rfl dX4_split_24 rfl ?_
  refine v_iload_n (n := 28) k dX4_split_27 rfl rfl ?_
  refine v_rdVi (n := 31) k [1, 2] 1 (z_X1_indexOf hw (h := h) hH hh9) miX1_indexOf ml_X4_234 (by decide) (by decide) rfl (by decide) rfl rfl rfl rfl (Nat.le_of_ble_eq_true rfl) ⟨Nat.zero_le _, Nat.zero_le _⟩ dX4_split_28 rfl ?_
  refine v_iload (n := 33) k dX4_split_31 rfl rfl ?_
  refine v_ineg (n := 34) k dX4_split_33 rfl ?_
  refine v_iand (n := 35) k (((fstE C h (pb C p 0) : Nat) : Int)) (ax_negmask rfl (by rw [Nat.one_mul]) (by omega) (by omega)) dX4_split_34 rfl ?_
  refine v_istore (n := 37) k dX4_split_35 rfl (by decide) rfl rfl ?_
  refine v_iload (n := 39) k dX4_split_37 rfl rfl ?_
  refine v_iload (n := 41) k dX4_split_39 rfl rfl ?_
  refine v_iconst (n := 42) k dX4_split_41 rfl ?_
  refine v_idiv (n := 43) k (((2 ^ (C 0 - pb C p 0) / 2 : Nat) : Int)) (ax_ne0 (by omega) (by omega)) (ax_div (by rw [Nat.one_mul]) rfl (by omega) (by omega) (by omega)) dX4_split_42 rfl ?_
  refine v_iadd (n := 44) k dX4_split_43 rfl ?_
  refine v_top (b := ((sF : Nat) : Int)) (by omega) ?_
  refine v_istore (n := 46) k dX4_split_44 rfl (by decide) rfl rfl ?_
  refine v_iload (n := 48) k dX4_split_46 rfl rfl ?_
  refine v_iload (n := 50) k dX4_split_48 rfl rfl ?_
  refine v_iadd (n := 51) k dX4_split_50 rfl ?_
  refine v_top (b := ((sB : Nat) : Int)) (by omega) ?_
  refine v_istore (n := 53) k dX4_split_51 rfl (by decide) rfl rfl ?_
  refine v_aload_n (n := 54) k dX4_split_53 rfl rfl ?_
  refine v_get (n := 57) k ciX4 0 0 (by decide) fl_X4_10 rfl rfl dX4_split_54 rfl ?_
  refine v_iconst (n := 58) k dX4_split_57 rfl ?_
  refine v_upV (n := 61) k [1, 2, 3] 1 (z_X1_freeBehind hw w7 (a := 0) rfl (by omega) hks) miX1_freeBehind ml_X4_221 (by decide) (by decide) rfl (by decide) rfl rfl rfl rfl (Nat.le_of_ble_eq_true rfl) ⟨Nat.zero_le _, Nat.zero_le _⟩ dX4_split_58 rfl ?_
  rintro _ _ ⟨rfl, ko2, K2, hks2, rfl⟩
  dsimp only [wput, List.set, Option.toList, List.nil_append, List.cons_append]
  have hfin := frI_in (C := C) (lg := lg) (a := 0) w2
  refine v_istore (n := 63) k dX4_split_61 rfl (by decide) rfl rfl ?_
  refine v_iload (n := 65) k dX4_split_63 rfl rfl ?_
  refine v_iconst (n := 66) k dX4_split_65 rfl ?_
  refine v_icmp_ne (n := 69) (t := 71) k (hfin) (⟨by omega, by omega⟩) dX4_split_66 (by decide) rfl (fun c_66 => ?_) (fun c_66 => ?_)
  · obtain ⟨q, hfq⟩ : ∃ q, frN C pg lg 0 = some q := by
      cases hf : frN C pg lg 0 with
      | some q => exact ⟨q, rfl⟩
      | none => exact absurd (show frI C pg lg 0 = -1 by unfold frI; rw [hf]) c_66
    have hfi : frI C pg lg 0 = (q : Int) := by unfold frI; rw [hfq]
    obtain ⟨q1, q2, q3⟩ := frN_in hfq
    rw [hfi]
    refine v_iconst (n := 72) k dX4_split_71 rfl ?_
    refine v_iload (n := 74) k dX4_split_72 rfl rfl ?_
    refine v_iload (n := 76) k dX4_split_74 rfl rfl ?_
    refine v_rdSi (n := 79) k [] (z_X4_directoryPagesOf (a := sF) (b := sB) rfl rfl (by omega) (by omega)) miX4_directoryPagesOf ml_X4_237 (by decide) (by decide) rfl (by decide) rfl rfl (Nat.le_of_ble_eq_true rfl) ⟨Nat.zero_le _, Nat.zero_le _⟩ dX4_split_76 rfl ?_
    refine v_iadd (n := 80) k dX4_split_79 rfl ?_
    refine v_aload_n (n := 81) k dX4_split_80 rfl rfl ?_
    refine v_get (n := 84) k ciX4 0 0 (by decide) fl_X4_10 rfl rfl dX4_split_81 rfl ?_
    refine v_rdVi (n := 87) k [1] 1 (z_X1_log) miX1_log ml_X4_157 (by decide) (by decide) rfl (by decide) rfl rfl rfl rfl (Nat.le_of_ble_eq_true rfl) ⟨Nat.zero_le _, Nat.zero_le _⟩ dX4_split_84 rfl ?_
    refine v_icmp_le (n := 90) (t := 92) k (⟨by omega, by omega⟩) (⟨by omega, by omega⟩) dX4_split_87 (by decide) rfl (fun c_87 => ?_) (fun c_87 => ?_)
    · refine v_aload_n (n := 93) k dX4_split_92 rfl rfl ?_
      refine v_get (n := 96) k ciX4 0 1 (by decide) fl_X4_21 rfl rfl dX4_split_93 rfl ?_
      refine v_upV (n := 99) k [4, 7, 8] 4 (z_X0_begin) miX0_begin ml_X4_209 (by decide) (by decide) rfl (by decide) rfl rfl rfl rfl (Nat.le_of_ble_eq_true rfl) ⟨Nat.zero_le _, Nat.zero_le _⟩ dX4_split_96 rfl ?_
      rintro _ _ ⟨rfl, rfl⟩
      dsimp only [wput, List.set, Option.toList, List.nil_append, List.cons_append]
      refine v_aload_n (n := 100) k dX4_split_99 rfl rfl ?_
      refine v_iload_n (n := 101) k dX4_split_100 rfl rfl ?_
      refine v_iload_n (n := 102) k dX4_split_101 rfl rfl ?_
      refine v_iconst (n := 103) k dX4_split_102 rfl ?_
      refine v_upV (n := 106) k [0, 1, 2, 5, 6] 0 (z_X4_buildHalf (p := p) (e := pb C p 0) (b := 0) hP hp2 w2 hb9 w3 rfl (by omega) rfl (by omega)) miX4_buildHalf ml_X4_240 (by decide) (by decide) rfl (by decide) rfl rfl rfl rfl (Nat.le_of_ble_eq_true rfl) ⟨Nat.zero_le _, Nat.zero_le _⟩ dX4_split_103 rfl ?_
      rw [show recS C p (fun r => bitB (rh C p r) (pb C p 0) == 0) (pb C p 1) = halfL C p (pb C p 0) 0 from rfl]
      rintro _ _ ⟨rfl, rfl⟩
      dsimp only [wput, List.set, Option.toList, List.nil_append, List.cons_append]
      refine v_aload_n (n := 107) k dX4_split_106 rfl rfl ?_
      refine v_get (n := 110) k ciX4 0 1 (by decide) fl_X4_21 rfl rfl dX4_split_107 rfl ?_
      refine v_aload_n (n := 111) k dX4_split_110 rfl rfl ?_
      refine v_get (n := 114) k ciX4 0 2 (by decide) fl_X4_28 rfl rfl dX4_split_111 rfl ?_
      refine v_iload_n (n := 115) k dX4_split_114 rfl rfl ?_
      refine v_upV (n := 118) k [4, 1, 2, 3, 7, 8, 5, 6] 4 (z_X0_add (q := p) (ps := []) hP (by omega) (by simp; omega) w2 hal hks2) miX0_add ml_X4_227 (by decide) (by decide) rfl (by decide) rfl rfl rfl rfl (Nat.le_of_ble_eq_true rfl) ⟨Nat.zero_le _, Nat.zero_le _⟩ dX4_split_115 rfl ?_
      rintro _ _ ⟨b1, C2, wt2, al2, dn2, ko3, hs1, hks1, hal1, rfl, rfl⟩
      dsimp only [wput, List.set, Option.toList, List.nil_append, List.cons_append]
      refine v_if_ne (n := 121) (t := 123) k (⟨by cases b1 <;> decide, by cases b1 <;> decide⟩) dX4_split_118 (by decide) rfl (fun c_118 => ?_) (fun c_118 => ?_)
      · have hb9 : b1 = true := by
          cases b1 with
          | true => rfl
          | false => exact absurd rfl c_118
        subst hb9
        have hag2 : AGR lg C C2 := sW_agr hs1 (by simp) (by simp; omega)
        have hC2 : ∀ j, C2 j < 256 := sW_lt hs1 w3 (fun j _ => half_lt w3 hb9 (by omega) j)
        refine v_aload_n (n := 124) k dX4_split_123 rfl rfl ?_
        refine v_iload_n (n := 125) k dX4_split_124 rfl rfl ?_
        refine v_iload_n (n := 126) k dX4_split_125 rfl rfl ?_
        refine v_iconst (n := 127) k dX4_split_126 rfl ?_
        refine v_upV (n := 130) k [0, 1, 2, 5, 6] 0 (z_X4_buildHalf (p := p) (e := pb C p 0) (b := 1) hP hp2 w2 (pg_WB (hag2.pg hp1) hb9) hC2 rfl (by omega) rfl (by omega)) miX4_buildHalf ml_X4_240 (by decide) (by decide) rfl (by decide) rfl rfl rfl rfl (Nat.le_of_ble_eq_true rfl) ⟨Nat.zero_le _, Nat.zero_le _⟩ dX4_split_127 rfl ?_
        rw [show recS C2 p (fun r => bitB (rh C2 p r) (pb C p 0) == 1) (pb C2 p 1) = halfL C p (pb C p 0) 1 from pg_half (hag2.pg hp1) hb9 _ _]
        rintro _ _ ⟨rfl, rfl⟩
        dsimp only [wput, List.set, Option.toList, List.nil_append, List.cons_append]
        refine v_aload_n (n := 131) k dX4_split_130 rfl rfl ?_
        refine v_get (n := 134) k ciX4 0 1 (by decide) fl_X4_21 rfl rfl dX4_split_131 rfl ?_
        refine v_aload_n (n := 135) k dX4_split_134 rfl rfl ?_
        refine v_get (n := 138) k ciX4 0 2 (by decide) fl_X4_28 rfl rfl dX4_split_135 rfl ?_
        refine v_iload (n := 140) k dX4_split_138 rfl rfl ?_
        refine v_upV (n := 143) k [4, 1, 2, 3, 7, 8, 5, 6] 4 (z_X0_add (q := q) (ps := [p]) rfl (by omega) (by simp; omega) w2 hal1 hks1) miX0_add ml_X4_227 (by decide) (by decide) rfl (by decide) rfl rfl rfl rfl (Nat.le_of_ble_eq_true rfl) ⟨Nat.zero_le _, Nat.zero_le _⟩ dX4_split_140 rfl ?_
        rintro _ _ ⟨b3, C3, wt3, al3, dn3, ko4, hs3, hks3, hal3, rfl, rfl⟩
        dsimp only [wput, List.set, Option.toList, List.nil_append, List.cons_append]
        refine v_if_ne (n := 146) (t := 148) k (⟨by cases b3 <;> decide, by cases b3 <;> decide⟩) dX4_split_143 (by decide) rfl (fun c_143 => ?_) (fun c_143 => ?_)
        · have hb9 : b3 = true := by
            cases b3 with
            | true => rfl
            | false => exact absurd rfl c_143
          subst hb9
          have hag3 : AGR lg C C3 := hag2.tr (sW_agr hs3 (by simp) (by simp; omega))
          have hC3 : ∀ j, C3 j < 256 := sW_lt hs3 hC2 (fun j _ => half_lt w3 hb9 (by omega) j)
          have hrt : rtL C3 sF sB q (dpO sF sB) (sF / 256) = rtL C sF sB q (dpO sF sB) (sF / 256) := rtL_agr hag3 hw _ _ (by unfold dpO; omega)
          refine v_aload_n (n := 149) k dX4_split_148 rfl rfl ?_
          refine v_iload (n := 151) k dX4_split_149 rfl rfl ?_
          refine v_iload (n := 153) k dX4_split_151 rfl rfl ?_
          refine v_iload (n := 155) k dX4_split_153 rfl rfl ?_
          refine v_upV (n := 158) k [0, 1, 2, 3, 4, 5, 6, 7, 8] 0 (z_X4_retell (a := sF) (b := sB) (q := q) (ps := [p, q]) rfl rfl rfl (by omega) (by omega) (hag3.dw hw hC3) (by rw [hag3.c0 (by omega)]; omega) hks3 hal3 (by simp; omega) hlp) miX4_retell ml_X4_244 (by decide) (by decide) rfl (by decide) rfl rfl rfl rfl (Nat.le_of_ble_eq_true rfl) ⟨Nat.zero_le _, Nat.zero_le _⟩ dX4_split_155 rfl ?_
          rw [show (sB - 1) / 256 + 1 - sF / 256 = dpO sF sB from rfl, hrt]
          rintro _ _ ⟨b5, C5, wt5, al5, dn5, ko5, fj5, fb5, hs5, hj5, hks5, hal5, hC5, rfl, rfl⟩
          dsimp only [wput, List.set, Option.toList, List.nil_append, List.cons_append]
          refine v_if_eq (n := 161) (t := 175) k (⟨by cases b5 <;> decide, by cases b5 <;> decide⟩) dX4_split_158 (by decide) rfl (fun c_158 => ?_) (fun c_158 => ?_)
          · refine v_iconst (n := 176) k dX4_split_175 rfl ?_
            refine v_iretU k hq ?_ rfl dX4_split_176
            have hb9 : b5 = false := by
              cases b5 with
              | false => rfl
              | true => exact absurd c_158 (by decide)
            subst hb9
            refine ⟨4, C5, wt5, al5, dn5, ko5, _, _, _, _, ?_, hks5, hal5, rfl, rfl⟩
            refine (hrts q (by unfold dpO; omega) hfq).trans (congrArg stC (sChg_f ((sImg_t (i := 0) hs1).trans ((sImg_t (i := 1) hs3).trans hs5))))
          · have hb9 : b5 = true := by
              cases b5 with
              | true => rfl
              | false => exact absurd rfl c_158
            subst hb9
            have hfj := hj5 rfl
            subst hfj
            have hJ9 : JV (jpg ([p, q] ++ (rtL C sF sB q (dpO sF sB) (sF / 256)).map Prod.fst)) pg := by
              refine JV_of (by simp [rtL_len]; unfold dpO; omega) (fun x hx => ?_)
              rcases List.mem_append.mp hx with g | g
              · simp at g
                omega
              · obtain ⟨t, t1, t2, t3⟩ := rtL_fst _ _ _ _ _ _ x g
                have h5 := w5 t (by unfold dpO at t2; omega)
                have h6 := w6 t (by unfold dpO at t2; omega)
                rw [pb0] at t3
                omega
            refine v_aload_n (n := 162) k dX4_split_161 rfl rfl ?_
            refine v_get (n := 165) k ciX4 0 1 (by decide) fl_X4_21 rfl rfl dX4_split_162 rfl ?_
            refine v_upV (n := 168) k [4, 1, 2, 3, 7, 8, 9, 10] 4 (z_X0_finish (ps := [p, q] ++ (rtL C sF sB q (dpO sF sB) (sF / 256)).map Prod.fst) hJ9 w2 hks5 hal5) miX0_finish ml_X4_231 (by decide) (by decide) rfl (by decide) rfl rfl rfl rfl (Nat.le_of_ble_eq_true rfl) ⟨Nat.zero_le _, Nat.zero_le _⟩ dX4_split_165 rfl ?_
            rintro _ _ ⟨b2, C7, wt7, al7, dn7, ko7, fj7, fi7, hs7, hks7, hal7, rfl, rfl⟩
            dsimp only [wput, List.set, Option.toList, List.nil_append, List.cons_append]
            refine v_if_eq (n := 171) (t := 175) k (⟨by cases b2 <;> decide, by cases b2 <;> decide⟩) dX4_split_168 (by decide) rfl (fun c_168 => ?_) (fun c_168 => ?_)
            · refine v_iconst (n := 176) k dX4_split_175 rfl ?_
              refine v_iretU k hq ?_ rfl dX4_split_176
              have hb9 : b2 = false := by
                cases b2 with
                | false => rfl
                | true => exact absurd c_168 (by decide)
              subst hb9
              refine ⟨4, C7, wt7, al7, dn7, ko7, _, _, _, _, ?_, hks7, hal7, rfl, rfl⟩
              refine (hrts q (by unfold dpO; omega) hfq).trans (congrArg stC (sChg_t ((sImg_t (i := 0) hs1).trans ((sImg_t (i := 1) hs3).trans hs5)) hs7))
            · refine v_iconst (n := 172) k dX4_split_171 rfl ?_
              refine v_goto (t := 176) k dX4_split_172 (by decide) ?_
              refine v_iretU k hq ?_ rfl dX4_split_176
              have hb9 : b2 = true := by
                cases b2 with
                | true => rfl
                | false => exact absurd rfl c_168
              subst hb9
              refine ⟨0, C7, wt7, al7, dn7, ko7, _, _, _, _, ?_, hks7, hal7, rfl, rfl⟩
              refine (hrts q (by unfold dpO; omega) hfq).trans (congrArg stC (sChg_t ((sImg_t (i := 0) hs1).trans ((sImg_t (i := 1) hs3).trans hs5)) hs7))
        · refine v_iconst (n := 147) k dX4_split_146 rfl ?_
          refine v_iretU k hq ?_ rfl dX4_split_147
          have hb9 : b3 = false := by
            cases b3 with
            | false => rfl
            | true => exact absurd c_143 (by decide)
          subst hb9
          refine ⟨4, C3, wt3, al3, dn3, ko4, _, _, _, _, ?_, hks3, hal3, rfl, rfl⟩
          refine (hrts q (by unfold dpO; omega) hfq).trans (congrArg stC (sChg_f ((sImg_t (i := 0) hs1).trans (sImg_f (i := 1) hs3))))
      · refine v_iconst (n := 122) k dX4_split_121 rfl ?_
        refine v_iretU k hq ?_ rfl dX4_split_122
        have hb9 : b1 = false := by
          cases b1 with
          | false => rfl
          | true => exact absurd c_118 (by decide)
        subst hb9
        refine ⟨4, C2, wt2, al2, dn2, ko3, _, _, _, _, ?_, hks1, hal1, rfl, rfl⟩
        refine (hrts q (by unfold dpO; omega) hfq).trans (congrArg stC (sChg_f (sImg_f (i := 0) hs1)))
    · refine v_iconst (n := 91) k dX4_split_90 rfl ?_
      refine v_iretU k hq ?_ rfl dX4_split_91
      refine ⟨2, C, wt, al, dn, ko2, K2, _, _, _, ?_, hks2, hal, rfl, rfl⟩
      unfold sSpl
      rw [show frN (C, wt, al, dn).1 pg lg 0 = some q from hfq]
      show (if lg < 2 + dpO (spF C h (pb C p 0)) (spB C h (pb C p 0)) then _ else _) = _
      rw [hgF, hgB, if_pos (show lg < 2 + dpO sF sB by unfold dpO; omega)]
  · refine v_iconst (n := 70) k dX4_split_69 rfl ?_
    refine v_iretU k hq ?_ rfl dX4_split_70
    refine ⟨1, C, wt, al, dn, ko2, K2, _, _, _, ?_, hks2, hal, rfl, rfl⟩
    have hfn : frN C pg lg 0 = none := by
      cases hf : frN C pg lg 0 with
      | none => rfl
      | some q =>
        have : frI C pg lg 0 = (q : Int) := by unfold frI; rw [hf]
        omega
    unfold sSpl
    rw [show frN (C, wt, al, dn).1 pg lg 0 = none from hfn]
