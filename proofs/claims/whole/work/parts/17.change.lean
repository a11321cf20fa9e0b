theorem Up_mono {l : Launch} {y : MethodName} {b : ByteArray} {ml : Nat} {rt : Option FieldType} {rm : Room} {D : va_G} {tys : List (ClassId × FieldType)} {args : List Value} {wc : va_W} {post post' : Option Value → va_W → Prop} (h : Up l y b ml rt rm D tys args wc post) (hp : ∀ v w1, post v w1 → post' v w1) : Up l y b ml rt rm D tys args wc post' := by
  intro p e ha hc hk s m args' below hf happ hP hK
  obtain ⟨n, o, h1, h2, h3, ⟨⟨v, w1, q1, q2, q3⟩, q4⟩, q5⟩ := h p e ha hc hk s m args' below hf happ hP hK
  exact ⟨n, o, h1, h2, h3, ⟨⟨v, w1, q1, hp v w1 q2, q3⟩, q4⟩, q5⟩
/-- the disk: bytes, writes, what the power allows, down -/
abbrev DA : Type := (Nat → Nat) × Int × Int × Int
def sW (a : DA) (p : Nat) (f : Nat → Nat) : Bool × DA := if a.2.2.1 = 0 then (false, a.1, a.2.1, a.2.2.1, 1) else (true, wrp a.1 p f, a.2.1 + 1, alW a.2.2.1, a.2.2.2)
def sRep : Nat → Nat → DA → Bool × DA
  | 0, _, a => (true, a)
  | m + 1, i, a => match sW a (pb a.1 1 (1 + i)) (pb a.1 (2 + i)) with
    | (false, a') => (false, a')
    | (true, a') => sRep m (i + 1) a'
/-- what the JOURNAL tells of is done -/
def sSet (a : DA) : Bool × DA := match sRep (pb a.1 1 0) 0 a with
  | (false, a') => (false, a')
  | (true, a') => sW a' 1 (fun _ => 0)
/-- the JOURNAL's page that tells of these places -/
def jpg (ps : List Nat) : Nat → Nat := fun j => if j = 0 then ps.length else ps.getD (j - 1) 0
def sFin (a : DA) (ps : List Nat) : Bool × DA := match sW a 1 (jpg ps) with
  | (false, a') => (false, a')
  | (true, a') => sSet a'
theorem jpg_0 : (fun _ => 0 : Nat → Nat) = jpg [] := by
  funext j
  unfold jpg
  split <;> simp
theorem jpg_add {ps : List Nat} {q : Nat} (hn : ps.length < 255) (hq : q < 256) : upN (upN (jpg ps) 0 ((ps.length + 1) % 256)) (ps.length + 1) (q % 256) = jpg (ps ++ [q]) := by
  funext j
  unfold upN jpg
  by_cases h0 : j = 0
  · rw [if_neg (by omega), if_pos h0, if_pos h0, Nat.mod_eq_of_lt (by omega)]
    simp
  · rw [if_neg h0, if_neg h0, if_neg h0]
    by_cases h1 : j = ps.length + 1
    · rw [if_pos h1, Nat.mod_eq_of_lt hq, show j - 1 = ps.length by omega]
      simp [List.getD_eq_getElem?_getD]
    · rw [if_neg h1, List.getD_eq_getElem?_getD, List.getD_eq_getElem?_getD]
      rcases Nat.lt_or_ge (j - 1) ps.length with g | g
      · rw [List.getElem?_append_left g]
      · rw [List.getElem?_eq_none g, List.getElem?_eq_none (by simp; omega)]
theorem wrp_in {C f : Nat → Nat} {p i : Nat} (hi : i < 256) : pb (wrp C p f) p i = f i := by
  unfold pb wrp cpN
  rw [if_pos ⟨by omega, by omega⟩]
  congr 1
  omega
theorem wrp_out {C f : Nat → Nat} {p q i : Nat} (hi : i < 256) (h : q ≠ p) : pb (wrp C p f) q i = pb C q i := by
  unfold pb wrp cpN
  rw [if_neg (by omega)]
theorem wrp_lt {C f : Nat → Nat} {p : Nat} (hC : ∀ j, C j < 256) (hf : ∀ j, j < 256 → f j < 256) : ∀ j, wrp C p f j < 256 := by
  intro j
  unfold wrp cpN
  split
  · exact hf _ (by omega)
  · exact hC j
/-- two disks that have the same HEAD and the same directory -/
def HA (C C' : Nat → Nat) : Prop := (∀ j, j < 256 → C' j = C j) ∧ ∀ k, k < pF (C 0) → ∀ i, i < 256 → pb C' (pb C 0 (1 + k)) i = pb C (pb C 0 (1 + k)) i
theorem pb0 (C : Nat → Nat) (i : Nat) : pb C 0 i = C i := by
  unfold pb
  rw [Nat.zero_mul, Nat.zero_add]
theorem HA.ent {C C' : Nat → Nat} (h : HA C C') (hd : C 0 ≤ 15) {i : Nat} (hi : i < 2 ^ C 0) : entN C' i = entN C i := by
  have h1 := pF_idx hi
  have h2 := pF_lt hd
  unfold entN
  rw [pb0 C', h.1 _ (by omega), ← pb0 C]
  exact h.2 _ h1 _ (by omega)
theorem HA.kd {C C' : Nat → Nat} (h : HA C C') (hd : C 0 ≤ 15) (lg p : Nat) : kdN C' lg p = kdN C lg p := by
  have h0 : C' 0 = C 0 := h.1 0 (by omega)
  have h2 := pF_lt hd
  have e1 : dirB C' (pF (C' 0)) p = dirB C (pF (C 0)) p := by
    rw [h0]
    unfold dirB
    rw [Bool.eq_iff_iff, List.any_eq_true, List.any_eq_true]
    constructor
    · rintro ⟨k, hk, e⟩
      exact ⟨k, hk, by rw [pb0, h.1 _ (by have := List.mem_range.mp hk; omega), ← pb0 C] at e; exact e⟩
    · rintro ⟨k, hk, e⟩
      exact ⟨k, hk, by rw [pb0, h.1 _ (by have := List.mem_range.mp hk; omega), ← pb0 C]; exact e⟩
  have e2 : visB C' (2 ^ C' 0) p = visB C (2 ^ C 0) p := by
    rw [h0]
    unfold visB
    rw [Bool.eq_iff_iff, List.any_eq_true, List.any_eq_true]
    constructor
    · rintro ⟨k, hk, e⟩
      exact ⟨k, hk, by rw [h.ent hd (List.mem_range.mp hk)] at e; exact e⟩
    · rintro ⟨k, hk, e⟩
      exact ⟨k, hk, by rw [h.ent hd (List.mem_range.mp hk)]; exact e⟩
  unfold kdN
  rw [e1, e2]
/-- a page that is neither the HEAD nor the directory's -/
theorem HA.wr {C f : Nat → Nat} {p : Nat} (hd : C 0 ≤ 15) (h0 : p ≠ 0) (hn : ∀ k, k < pF (C 0) → C (1 + k) ≠ p) : HA C (wrp C p f) := by
  refine ⟨fun j hj => ?_, fun k hk i hi => wrp_out hi ?_⟩
  · have := wrp_out (C := C) (f := f) (p := p) (q := 0) hj (fun e => h0 e.symm)
    rw [pb0, pb0] at this
    exact this
  · rw [pb0]
    exact hn k hk
theorem dirB_mem {C : Nat → Nat} {n k p : Nat} (hk : k < n) (e : C (1 + k) = p) : dirB C n p = true := any_range hk (by rw [pb0, e]; simp)
theorem KS.wr {ko : Int} {K C f : Nat → Nat} {pg lg p : Nat} (h : KS ko K C pg lg) (hp : p < pg) : KS (koW ko p K) K (wrp C p f) pg lg := by
  refine ⟨h.1, ?_⟩
  unfold koW
  by_cases hc : p = 0 ∨ K p = 4
  · rw [if_pos hc]
    exact Or.inl rfl
  · rw [if_neg hc]
    rcases h.2 with h1 | ⟨h1, h2, h3, h4⟩
    · exact Or.inl h1
    · have hn : ∀ k, k < pF (C 0) → C (1 + k) ≠ p := by
        intro k hk e
        have h5 := h3 k hk
        have h6 : kdN C lg p = 4 := by
          unfold kdN
          rw [if_neg (by omega), if_neg (by omega), if_neg (by omega), dirB_mem hk e]
          rfl
        exact hc (Or.inr (by rw [h2.2 p hp, h6]))
      have hA : HA C (wrp C p f) := HA.wr h4 (fun e => hc (Or.inl e)) hn
      have e0 : wrp C p f 0 = C 0 := hA.1 0 (by omega)
      have h7 := pF_lt h4
      refine Or.inr ⟨h1, ⟨h2.1, fun q hq => ?_⟩, fun k hk => ?_, by rw [e0]; exact h4⟩
      · rw [hA.kd h4, h2.2 q hq]
      · rw [e0] at hk
        rw [hA.1 _ (by omega)]
        exact h3 k hk
theorem alW_in {al : Int} (h : in32 al) : in32 (alW al) := by
  obtain ⟨h1, h2⟩ := h
  unfold alW
  split
  · exact ⟨by omega, by omega⟩
  · exact ⟨h1, h2⟩
theorem z_X1_writeS {D : va_G} {cI cB cJ cZ : ClassId} {hd hc hk : Nat} {ko : Int} {pg lg : Nat} {wt al dn : Int} {C : Nat → Nat} {K : Nat → Nat} {hp hb : Nat} {f : Nat → Nat} {P : Int} {p : Nat} (hP : P = (p : Int)) (hp9 : p < pg) (hg : pg ≤ 255) (ha : in32 al) (hks : KS ko K C pg lg) : ∀ l, Up l yX1_write cX1_write 3 (some .boolean) ({ frames := 2, cells := 0, slots := 0, locals := 62 }) D (TY cI cB cJ cZ) [.ref hd, .int (iI P), .ref hp] [oDisk hd hc hk ko pg lg wt al dn, aN cI hc 65280 C, aN cI hk 255 K, oPage hp hb, aN cI hb 256 f] (fun r w1 => ∃ b C2 wt2 al2 dn2 ko2, sW (C, wt, al, dn) p f = (b, C2, wt2, al2, dn2) ∧ KS ko2 K C2 pg lg ∧ in32 al2 ∧ r = some (.int (iI (bI b))) ∧ w1 = [oDisk hd hc hk ko2 pg lg wt2 al2 dn2, aN cI hc 65280 C2, aN cI hk 255 K, oPage hp hb, aN cI hb 256 f]) := by
  intro l
  refine Up_mono (z_X1_write hP hp9 hg hks.1 ha l) ?_
  intro v w1 ⟨h1, h2⟩
  by_cases h0 : al = 0
  · obtain ⟨rfl, rfl⟩ := h1 h0
    exact ⟨false, C, wt, al, 1, ko, if_pos h0, hks, ha, rfl, rfl⟩
  · obtain ⟨rfl, rfl⟩ := h2 h0
    exact ⟨true, wrp C p f, wt + 1, alW al, dn, koW ko p K, if_neg h0, hks.wr hp9, alW_in ha, rfl, rfl⟩
set_option maxHeartbeats 1000000 in
set_option maxRecDepth 20000 in
theorem z_X0_begin {D : va_G} {cI cB cJ cZ : ClassId} {hx hd hj hi hjb : Nat} {f : Nat → Nat}  : ∀ l, Up l yX0_begin cX0_begin 1 none ({ frames := 2, cells := 0, slots := 0, locals := 43 }) D (TY cI cB cJ cZ) [.ref hx] [oChange hx hd hj hi, oPage hj hjb, aN cI hjb 256 f] (fun r w1 => r = none ∧ w1 = [oChange hx hd hj hi, oPage hj hjb, aN cI hjb 256 (jpg [])]) := by
  intro l
  refine Up_of (by decide) (Nat.le_of_ble_eq_true rfl) (fun x k hq => ?_)
  refine v_aload_n (n := 1) k dX0_begin_0 rfl rfl ?_
  refine v_get (n := 4) k ciX0 0 1 (by decide) fl_X0_18 rfl rfl dX0_begin_1 rfl ?_
  refine v_upV (n := 7) k [1, 2] 1 (z_X2_clear) miX2_clear ml_X0_25 (by decide) (by decide) rfl (by decide) rfl rfl rfl rfl (Nat.le_of_ble_eq_true rfl) ⟨Nat.zero_le _, Nat.zero_le _⟩ dX0_begin_4 rfl ?_
  rw [jpg_0]
  rintro _ _ ⟨rfl, rfl⟩
  dsimp only [wput, List.set, Option.toList, List.nil_append, List.cons_append]
  refine v_vretU k hq ?_ rfl dX0_begin_7
  exact ⟨rfl, rfl⟩
set_option maxHeartbeats 1000000 in
set_option maxRecDepth 20000 in
theorem z_X0_add {D : va_G} {cI cB cJ cZ : ClassId} {hd hc hk : Nat} {ko : Int} {pg lg : Nat} {wt al dn : Int} {C : Nat → Nat} {K : Nat → Nat} {hx hj hi hjb : Nat} {hp hb : Nat} {f : Nat → Nat} {Q : Int} {q : Nat} {ps : List Nat} (hQ : Q = (q : Int)) (hq9 : q < 256) (hn : ps.length + 2 < pg) (hg : pg ≤ 255) (ha : in32 al) (hks : KS ko K C pg lg) : ∀ l, Up l yX0_add cX0_add 4 (some .boolean) ({ frames := 3, cells := 0, slots := 0, locals := 84 }) D (TY cI cB cJ cZ) [.ref hx, .ref hp, .int (iI Q)] [oChange hx hd hj hi, oDisk hd hc hk ko pg lg wt al dn, aN cI hc 65280 C, aN cI hk 255 K, oPage hj hjb, aN cI hjb 256 (jpg ps), oPage hp hb, aN cI hb 256 f] (fun r w1 => ∃ b C2 wt2 al2 dn2 ko2, sW (C, wt, al, dn) (2 + ps.length) f = (b, C2, wt2, al2, dn2) ∧ KS ko2 K C2 pg lg ∧ in32 al2 ∧ r = some (.int (iI (bI b))) ∧ w1 = [oChange hx hd hj hi, oDisk hd hc hk ko2 pg lg wt2 al2 dn2, aN cI hc 65280 C2, aN cI hk 255 K, oPage hj hjb, aN cI hjb 256 (jpg (ps ++ [q])), oPage hp hb, aN cI hb 256 f]) := by
  intro l
  refine Up_of (by decide) (Nat.le_of_ble_eq_true rfl) (fun x k hq => ?_)
  refine v_aload_n (n := 1) k dX0_add_0 rfl rfl ?_
  refine v_get (n := 4) k ciX0 0 1 (by decide) fl_X0_18 rfl rfl dX0_add_1 rfl ?_
  refine v_iconst (n := 5) k dX0_add_4 rfl ?_
  refine v_rdVi (n := 8) k [4, 5] 4 (z_X2_byteAt (i := 0) rfl (by decide)) miX2_byteAt ml_X0_28 (by decide) (by decide) rfl (by decide) rfl rfl rfl rfl (Nat.le_of_ble_eq_true rfl) ⟨Nat.zero_le _, Nat.zero_le _⟩ dX0_add_5 rfl ?_
  refine v_istore_n (n := 9) k dX0_add_8 rfl (by decide) rfl rfl ?_
  refine v_aload_n (n := 10) k dX0_add_9 rfl rfl ?_
  refine v_get (n := 13) k ciX0 0 1 (by decide) fl_X0_18 rfl rfl dX0_add_10 rfl ?_
  refine v_iconst (n := 14) k dX0_add_13 rfl ?_
  refine v_iload_n (n := 15) k dX0_add_14 rfl rfl ?_
  refine v_iconst (n := 16) k dX0_add_15 rfl ?_
  refine v_iadd (n := 17) k dX0_add_16 rfl ?_
  refine v_upV (n := 20) k [4, 5] 4 (z_X2_set (i := 0) (v := ps.length + 1) rfl rfl (by decide)) miX2_set ml_X0_32 (by decide) (by decide) rfl (by decide) rfl rfl rfl rfl (Nat.le_of_ble_eq_true rfl) ⟨Nat.zero_le _, Nat.zero_le _⟩ dX0_add_17 rfl ?_
  rintro _ _ ⟨rfl, rfl⟩
  dsimp only [wput, List.set, Option.toList, List.nil_append, List.cons_append]
  refine v_aload_n (n := 21) k dX0_add_20 rfl rfl ?_
  refine v_get (n := 24) k ciX0 0 1 (by decide) fl_X0_18 rfl rfl dX0_add_21 rfl ?_
  refine v_iload_n (n := 25) k dX0_add_24 rfl rfl ?_
  refine v_iconst (n := 26) k dX0_add_25 rfl ?_
  refine v_iadd (n := 27) k dX0_add_26 rfl ?_
  refine v_iload_n (n := 28) k dX0_add_27 rfl rfl ?_
  refine v_upV (n := 31) k [4, 5] 4 (z_X2_set (i := ps.length + 1) (v := q) rfl hQ (by omega)) miX2_set ml_X0_32 (by decide) (by decide) rfl (by decide) rfl rfl rfl rfl (Nat.le_of_ble_eq_true rfl) ⟨Nat.zero_le _, Nat.zero_le _⟩ dX0_add_28 rfl ?_
  rw [jpg_add (by omega) hq9]
  rintro _ _ ⟨rfl, rfl⟩
  dsimp only [wput, List.set, Option.toList, List.nil_append, List.cons_append]
  refine v_aload_n (n := 32) k dX0_add_31 rfl rfl ?_
  refine v_get (n := 35) k ciX0 0 0 (by decide) fl_X0_9 rfl rfl dX0_add_32 rfl ?_
  refine v_iconst (n := 36) k dX0_add_35 rfl ?_
  refine v_iload_n (n := 37) k dX0_add_36 rfl rfl ?_
  refine v_iadd (n := 38) k dX0_add_37 rfl ?_
  refine v_aload_n (n := 39) k dX0_add_38 rfl rfl ?_
  refine v_upV (n := 42) k [1, 2, 3, 6, 7] 1 (z_X1_writeS (p := 2 + ps.length) rfl (by omega) hg ha hks) miX1_write ml_X0_36 (by decide) (by decide) rfl (by decide) rfl rfl rfl rfl (Nat.le_of_ble_eq_true rfl) ⟨Nat.zero_le _, Nat.zero_le _⟩ dX0_add_39 rfl ?_
  rintro _ _ ⟨b1, C2, wt2, al2, dn2, ko2, hs1, hks1, hal1, rfl, rfl⟩
  dsimp only [wput, List.set, Option.toList, List.nil_append, List.cons_append]
  refine v_zretU k (bI_z b1) hq ?_ rfl dX0_add_42
  exact ⟨b1, C2, wt2, al2, dn2, ko2, hs1, hks1, hal1, rfl, rfl⟩
/-- what a JOURNAL may tell -/
def JV (J : Nat → Nat) (pg : Nat) : Prop := J 0 + 2 ≤ pg ∧ ∀ i, i < J 0 → J (1 + i) < pg ∧ J (1 + i) ≠ 1
theorem sW_1 {C f : Nat → Nat} {wt al dn : Int} {q : Nat} {b : Bool} {C2 : Nat → Nat} {wt2 al2 dn2 : Int} (h : sW (C, wt, al, dn) q f = (b, C2, wt2, al2, dn2)) : C2 = C ∨ C2 = wrp C q f := by
  unfold sW at h
  split at h
  · cases h; exact Or.inl rfl
  · cases h; exact Or.inr rfl
theorem sW_keep {C f : Nat → Nat} {wt al dn : Int} {q r i : Nat} {b : Bool} {C2 : Nat → Nat} {wt2 al2 dn2 : Int} (h : sW (C, wt, al, dn) q f = (b, C2, wt2, al2, dn2)) (hr : r ≠ q) (hi : i < 256) : pb C2 r i = pb C r i := by
  rcases sW_1 h with e | e
  · rw [e]
  · rw [e, wrp_out hi hr]
theorem sRep_f {n i : Nat} {a a' : DA} (hi : i < n) (h : sW a (pb a.1 1 (1 + i)) (pb a.1 (2 + i)) = (false, a')) : sRep (n - i) i a = (false, a') := by
  obtain ⟨m, hm⟩ : ∃ m, n - i = m + 1 := ⟨n - i - 1, by omega⟩
  rw [hm]
  unfold sRep
  rw [h]
theorem sRep_t {n i : Nat} {a a' : DA} (hi : i < n) (h : sW a (pb a.1 1 (1 + i)) (pb a.1 (2 + i)) = (true, a')) : sRep (n - i) i a = sRep (n - (i + 1)) (i + 1) a' := by
  obtain ⟨m, hm⟩ : ∃ m, n - i = m + 1 := ⟨n - i - 1, by omega⟩
  rw [hm, show n - (i + 1) = m by omega]
  rw [sRep, h]
set_option maxHeartbeats 1000000 in
set_option maxRecDepth 20000 in
theorem lp_X0_settle {D : va_G} {cI cB cJ cZ : ClassId} {x : Kx} {hd hc hk : Nat} {pg lg : Nat} {K : Nat → Nat} {hx hj hi hjb hib : Nat} {J fj : Nat → Nat} {a0 : DA} (k : Kf x cX0_settle 3 yX0_settle.cls (some .boolean) D (TY cI cB cJ cZ) ({ frames := 3, cells := 0, slots := 0, locals := 84 })) (hq : isU x D [hx, hd, hc, hk, hj, hjb, hi, hib] (fun r w1 => ∃ b C2 wt2 al2 dn2 ko2 fj2 fi2, sSet a0 = (b, C2, wt2, al2, dn2) ∧ KS ko2 K C2 pg lg ∧ in32 al2 ∧ r = some (.int (iI (bI b))) ∧ w1 = [oChange hx hd hj hi, oDisk hd hc hk ko2 pg lg wt2 al2 dn2, aN cI hc 65280 C2, aN cI hk 255 K, oPage hj hjb, aN cI hjb 256 fj2, oPage hi hib, aN cI hib 256 fi2])) (hJ : JV J pg) (hg : pg ≤ 255) (hJ0 : pb a0.1 1 0 = J 0) : ∀ (m : Nat) (i : Nat) (I : Int) (C : Nat → Nat) (wt al dn ko : Int) (fi : Nat → Nat), J 0 < i + m → i ≤ J 0 → I = (i : Int) → (∀ j, j < 256 → pb C 1 j = J j) → sRep (J 0) 0 a0 = sRep (J 0 - i) i (C, wt, al, dn) → KS ko K C pg lg → in32 al → Vw x 3 (fun q => q ∈ [hx, hd, hc, hk, hj, hjb, hi, hib]) D true 0 0 [oChange hx hd hj hi, oDisk hd hc hk ko pg lg wt al dn, aN cI hc 65280 C, aN cI hk 255 K, oPage hj hjb, aN cI hjb 256 fj, oPage hi hib, aN cI hib 256 fi] 12 [(0, .ref hx), (1, .int (iI ((J 0 : Nat) : Int))), (2, .int (iI I))] [] := by
  intro m
  induction m with
  | zero => intro i I C wt al dn ko fi hm hi9 e1 hJ1 e2 hks ha; omega
  | succ m ih =>
    intro i I C wt al dn ko fi hm hi9 e1 hJ1 e2 hks ha
    obtain ⟨j1, j2⟩ := id hJ
    refine v_iload_n (n := 13) k dX0_settle_12 rfl rfl ?_
    refine v_iload_n (n := 14) k dX0_settle_13 rfl rfl ?_
    refine v_icmp_ge (n := 17) (t := 64) k (⟨by omega, by omega⟩) (⟨by omega, by omega⟩) dX0_settle_14 (by decide) rfl (fun c_14 => ?_) (fun c_14 => ?_)
    · have e9 : i = J 0 := by omega
      subst e9
      refine v_aload_n (n := 65) k dX0_settle_64 rfl rfl ?_
      refine v_get (n := 68) k ciX0 0 1 (by decide) fl_X0_18 rfl rfl dX0_settle_65 rfl ?_
      refine v_upV (n := 71) k [4, 5] 4 (z_X2_clear) miX2_clear ml_X0_25 (by decide) (by decide) rfl (by decide) rfl rfl rfl rfl (Nat.le_of_ble_eq_true rfl) ⟨Nat.zero_le _, Nat.zero_le _⟩ dX0_settle_68 rfl ?_
      rintro _ _ ⟨rfl, rfl⟩
      dsimp only [wput, List.set, Option.toList, List.nil_append, List.cons_append]
      refine v_aload_n (n := 72) k dX0_settle_71 rfl rfl ?_
      refine v_get (n := 75) k ciX0 0 0 (by decide) fl_X0_9 rfl rfl dX0_settle_72 rfl ?_
      refine v_iconst (n := 76) k dX0_settle_75 rfl ?_
      refine v_aload_n (n := 77) k dX0_settle_76 rfl rfl ?_
      refine v_get (n := 80) k ciX0 0 1 (by decide) fl_X0_18 rfl rfl dX0_settle_77 rfl ?_
      refine v_upV (n := 83) k [1, 2, 3, 4, 5] 1 (z_X1_writeS (p := 1) rfl (by omega) hg ha hks) miX1_write ml_X0_36 (by decide) (by decide) rfl (by decide) rfl rfl rfl rfl (Nat.le_of_ble_eq_true rfl) ⟨Nat.zero_le _, Nat.zero_le _⟩ dX0_settle_80 rfl ?_
      rintro _ _ ⟨b1, C2, wt2, al2, dn2, ko2, hs1, hks1, hal1, rfl, rfl⟩
      dsimp only [wput, List.set, Option.toList, List.nil_append, List.cons_append]
      refine v_zretU k (bI_z b1) hq ?_ rfl dX0_settle_83
      refine ⟨b1, C2, wt2, al2, dn2, ko2, _, _, ?_, hks1, hal1, rfl, rfl⟩
      unfold sSet
      rw [hJ0, e2, Nat.sub_self]
      exact hs1
    · refine v_aload_n (n := 18) k dX0_settle_17 rfl rfl ?_
      refine v_get (n := 21) k ciX0 0 0 (by decide) fl_X0_9 rfl rfl dX0_settle_18 rfl ?_
      refine v_iconst (n := 22) k dX0_settle_21 rfl ?_
      refine v_iload_n (n := 23) k dX0_settle_22 rfl rfl ?_
      refine v_iadd (n := 24) k dX0_settle_23 rfl ?_
      refine v_aload_n (n := 25) k dX0_settle_24 rfl rfl ?_
      refine v_get (n := 28) k ciX0 0 2 (by decide) fl_X0_22 rfl rfl dX0_settle_25 rfl ?_
      refine v_upV (n := 31) k [1, 2, 6, 7] 1 (z_X1_read (p := 2 + i) (by omega) (by omega) hg) miX1_read ml_X0_50 (by decide) (by decide) rfl (by decide) rfl rfl rfl rfl (Nat.le_of_ble_eq_true rfl) ⟨Nat.zero_le _, Nat.zero_le _⟩ dX0_settle_28 rfl ?_
      rintro _ _ ⟨rfl, rfl⟩
      dsimp only [wput, List.set, Option.toList, List.nil_append, List.cons_append]
      refine v_aload_n (n := 32) k dX0_settle_31 rfl rfl ?_
      refine v_get (n := 35) k ciX0 0 0 (by decide) fl_X0_9 rfl rfl dX0_settle_32 rfl ?_
      refine v_aload_n (n := 36) k dX0_settle_35 rfl rfl ?_
      refine v_get (n := 39) k ciX0 0 0 (by decide) fl_X0_9 rfl rfl dX0_settle_36 rfl ?_
      refine v_iconst (n := 40) k dX0_settle_39 rfl ?_
      refine v_iconst (n := 41) k dX0_settle_40 rfl ?_
      refine v_iload_n (n := 42) k dX0_settle_41 rfl rfl ?_
      refine v_iadd (n := 43) k dX0_settle_42 rfl ?_
      refine v_rdVi (n := 46) k [1, 2] 1 (z_X1_at (p := 1) (i := 1 + i) rfl (by omega) (by omega) (by omega) hg) miX1_at ml_X0_46 (by decide) (by decide) rfl (by decide) rfl rfl rfl rfl (Nat.le_of_ble_eq_true rfl) ⟨Nat.zero_le _, Nat.zero_le _⟩ dX0_settle_43 rfl ?_
      refine v_aload_n (n := 47) k dX0_settle_46 rfl rfl ?_
      refine v_get (n := 50) k ciX0 0 2 (by decide) fl_X0_22 rfl rfl dX0_settle_47 rfl ?_
      refine v_upV (n := 53) k [1, 2, 3, 6, 7] 1 (z_X1_writeS (p := pb C 1 (1 + i)) rfl (by rw [hJ1 _ (by omega)]; exact (j2 i (by omega)).1) hg ha hks) miX1_write ml_X0_36 (by decide) (by decide) rfl (by decide) rfl rfl rfl rfl (Nat.le_of_ble_eq_true rfl) ⟨Nat.zero_le _, Nat.zero_le _⟩ dX0_settle_50 rfl ?_
      rintro _ _ ⟨b1, C2, wt2, al2, dn2, ko2, hs1, hks1, hal1, rfl, rfl⟩
      dsimp only [wput, List.set, Option.toList, List.nil_append, List.cons_append]
      refine v_if_ne (n := 56) (t := 58) k (⟨by cases b1 <;> decide, by cases b1 <;> decide⟩) dX0_settle_53 (by decide) rfl (fun c_53 => ?_) (fun c_53 => ?_)
      · have hb9 : b1 = true := by
          cases b1 with
          | true => rfl
          | false => exact absurd rfl c_53
        subst hb9
        refine v_iinc (n := 61) k dX0_settle_58 rfl (by decide) rfl rfl rfl ?_
        refine v_goto (t := 12) k dX0_settle_61 (by decide) ?_
        refine ih (i + 1) _ _ _ _ _ _ _ (by omega) (by omega) (by omega) (fun j hj => ?_) ?_ hks1 hal1
        · rw [sW_keep hs1 (by rw [hJ1 _ (by omega)]; exact fun e => (j2 i (by omega)).2 e.symm) hj]
          exact hJ1 j hj
        · rw [e2]
          exact sRep_t (by omega) hs1
      · have hb9 : b1 = false := by
          cases b1 with
          | false => rfl
          | true => exact absurd c_53 (by decide)
        subst hb9
        refine v_iconst (n := 57) k dX0_settle_56 rfl ?_
        refine v_zretU k (by decide) hq ?_ rfl dX0_settle_57
        refine ⟨false, C2, wt2, al2, dn2, ko2, _, _, ?_, hks1, hal1, rfl, rfl⟩
        unfold sSet
        rw [hJ0, e2, sRep_f (by omega) hs1]
set_option maxHeartbeats 1000000 in
set_option maxRecDepth 20000 in
theorem z_X0_settle {D : va_G} {cI cB cJ cZ : ClassId} {hd hc hk : Nat} {ko : Int} {pg lg : Nat} {wt al dn : Int} {C : Nat → Nat} {K : Nat → Nat} {hx hj hi hjb hib : Nat} {J fj fi : Nat → Nat} (hJ : JV J pg) (hJ1 : ∀ j, j < 256 → pb C 1 j = J j) (hg : pg ≤ 255) (hks : KS ko K C pg lg) (ha : in32 al) : ∀ l, Up l yX0_settle cX0_settle 3 (some .boolean) ({ frames := 3, cells := 0, slots := 0, locals := 84 }) D (TY cI cB cJ cZ) [.ref hx] [oChange hx hd hj hi, oDisk hd hc hk ko pg lg wt al dn, aN cI hc 65280 C, aN cI hk 255 K, oPage hj hjb, aN cI hjb 256 fj, oPage hi hib, aN cI hib 256 fi] (fun r w1 => ∃ b C2 wt2 al2 dn2 ko2 fj2 fi2, sSet (C, wt, al, dn) = (b, C2, wt2, al2, dn2) ∧ KS ko2 K C2 pg lg ∧ in32 al2 ∧ r = some (.int (iI (bI b))) ∧ w1 = [oChange hx hd hj hi, oDisk hd hc hk ko2 pg lg wt2 al2 dn2, aN cI hc 65280 C2, aN cI hk 255 K, oPage hj hjb, aN cI hjb 256 fj2, oPage hi hib, aN cI hib 256 fi2]) := by
  intro l
  refine Up_of (by decide) (Nat.le_of_ble_eq_true rfl) (fun x k hq => ?_)
  obtain ⟨j1, j2⟩ := id hJ
  refine v_aload_n (n := 1) k dX0_settle_0 rfl rfl ?_
  refine v_get (n := 4) k ciX0 0 0 (by decide) fl_X0_9 rfl rfl dX0_settle_1 rfl ?_
  refine v_iconst (n := 5) k dX0_settle_4 rfl ?_
  refine v_iconst (n := 6) k dX0_settle_5 rfl ?_
  refine v_rdVi (n := 9) k [1, 2] 1 (z_X1_at (p := 1) (i := 0) rfl rfl (by omega) (by omega) hg) miX1_at ml_X0_46 (by decide) (by decide) rfl (by decide) rfl rfl rfl rfl (Nat.le_of_ble_eq_true rfl) ⟨Nat.zero_le _, Nat.zero_le _⟩ dX0_settle_6 rfl ?_
  rw [hJ1 0 (by omega)]
  refine v_istore_n (n := 10) k dX0_settle_9 rfl (by decide) rfl rfl ?_
  refine v_iconst (n := 11) k dX0_settle_10 rfl ?_
  refine v_istore_n (n := 12) k dX0_settle_11 rfl (by decide) rfl rfl ?_
  exact lp_X0_settle (a0 := (C, wt, al, dn)) k hq hJ hg (hJ1 0 (by omega)) (J 0 + 1) 0 _ _ _ _ _ _ _ (by omega) (by omega) rfl hJ1 rfl hks ha
set_option maxHeartbeats 1000000 in
set_option maxRecDepth 20000 in
theorem z_X0_finish {D : va_G} {cI cB cJ cZ : ClassId} {hd hc hk : Nat} {ko : Int} {pg lg : Nat} {wt al dn : Int} {C : Nat → Nat} {K : Nat → Nat} {hx hj hi hjb hib : Nat} {fi : Nat → Nat} {ps : List Nat} (hJ : JV (jpg ps) pg) (hg : pg ≤ 255) (hks : KS ko K C pg lg) (ha : in32 al) : ∀ l, Up l yX0_finish cX0_finish 1 (some .boolean) ({ frames := 4, cells := 0, slots := 0, locals := 106 }) D (TY cI cB cJ cZ) [.ref hx] [oChange hx hd hj hi, oDisk hd hc hk ko pg lg wt al dn, aN cI hc 65280 C, aN cI hk 255 K, oPage hj hjb, aN cI hjb 256 (jpg ps), oPage hi hib, aN cI hib 256 fi] (fun r w1 => ∃ b C2 wt2 al2 dn2 ko2 fj2 fi2, sFin (C, wt, al, dn) ps = (b, C2, wt2, al2, dn2) ∧ KS ko2 K C2 pg lg ∧ in32 al2 ∧ r = some (.int (iI (bI b))) ∧ w1 = [oChange hx hd hj hi, oDisk hd hc hk ko2 pg lg wt2 al2 dn2, aN cI hc 65280 C2, aN cI hk 255 K, oPage hj hjb, aN cI hjb 256 fj2, oPage hi hib, aN cI hib 256 fi2]) := by
  intro l
  refine Up_of (by decide) (Nat.le_of_ble_eq_true rfl) (fun x k hq => ?_)
  obtain ⟨j1, j2⟩ := id hJ
  refine v_aload_n (n := 1) k dX0_finish_0 rfl rfl ?_
  refine v_get (n := 4) k ciX0 0 0 (by decide) fl_X0_9 rfl rfl dX0_finish_1 rfl ?_
  refine v_iconst (n := 5) k dX0_finish_4 rfl ?_
  refine v_aload_n (n := 6) k dX0_finish_5 rfl rfl ?_
  refine v_get (n := 9) k ciX0 0 1 (by decide) fl_X0_18 rfl rfl dX0_finish_6 rfl ?_
  refine v_upV (n := 12) k [1, 2, 3, 4, 5] 1 (z_X1_writeS (p := 1) rfl (by omega) hg ha hks) miX1_write ml_X0_36 (by decide) (by decide) rfl (by decide) rfl rfl rfl rfl (Nat.le_of_ble_eq_true rfl) ⟨Nat.zero_le _, Nat.zero_le _⟩ dX0_finish_9 rfl ?_
  rintro _ _ ⟨b1, C2, wt2, al2, dn2, ko2, hs1, hks1, hal1, rfl, rfl⟩
  dsimp only [wput, List.set, Option.toList, List.nil_append, List.cons_append]
  refine v_if_eq (n := 15) (t := 26) k (⟨by cases b1 <;> decide, by cases b1 <;> decide⟩) dX0_finish_12 (by decide) rfl (fun c_12 => ?_) (fun c_12 => ?_)
  · refine v_iconst (n := 27) k dX0_finish_26 rfl ?_
    refine v_zretU k (by decide) hq ?_ rfl dX0_finish_27
    first
    | (have hb8 : b2 = true := by
        cases b2 with
        | true => rfl
        | false => exact absurd rfl c_19
       subst hb8
       refine ⟨true, C3, wt3, al3, dn3, ko3, _, _, ?_, hks2, hal2, rfl, rfl⟩
       unfold sFin
       rw [hs1]
       exact hs2)
    | (have hb8 : b2 = false := by
        cases b2 with
        | false => rfl
        | true => exact absurd c_19 (by decide)
       subst hb8
       refine ⟨false, C3, wt3, al3, dn3, ko3, _, _, ?_, hks2, hal2, rfl, rfl⟩
       unfold sFin
       rw [hs1]
       exact hs2)
    | (have hb8 : b1 = false := by
        cases b1 with
        | false => rfl
        | true => exact absurd c_12 (by decide)
       subst hb8
       refine ⟨false, C2, wt2, al2, dn2, ko2, _, _, ?_, hks1, hal1, rfl, rfl⟩
       unfold sFin
       rw [hs1])
  · have hb9 : b1 = true := by
      cases b1 with
      | true => rfl
      | false => exact absurd rfl c_12
    subst hb9
    have hC9 : C2 = wrp C 1 (jpg ps) := by
      unfold sW at hs1
      split at hs1
      · cases hs1
      · cases hs1; rfl
    refine v_aload_n (n := 16) k dX0_finish_15 rfl rfl ?_
    refine v_upV (n := 19) k [0, 1, 2, 3, 4, 5, 6, 7] 0 (z_X0_settle hJ (fun j hj => by
      rw [hC9]
      exact wrp_in hj) hg hks1 hal1) miX0_settle ml_X0_42 (by decide) (by decide) rfl (by decide) rfl rfl rfl rfl (Nat.le_of_ble_eq_true rfl) ⟨Nat.zero_le _, Nat.zero_le _⟩ dX0_finish_16 rfl ?_
    rintro _ _ ⟨b2, C3, wt3, al3, dn3, ko3, fj3, fi3, hs2, hks2, hal2, rfl, rfl⟩
    dsimp only [wput, List.set, Option.toList, List.nil_append, List.cons_append]
    refine v_if_eq (n := 22) (t := 26) k (⟨by cases b2 <;> decide, by cases b2 <;> decide⟩) dX0_finish_19 (by decide) rfl (fun c_19 => ?_) (fun c_19 => ?_)
    · refine v_iconst (n := 27) k dX0_finish_26 rfl ?_
      refine v_zretU k (by decide) hq ?_ rfl dX0_finish_27
      first
      | (have hb8 : b2 = true := by
          cases b2 with
          | true => rfl
          | false => exact absurd rfl c_19
         subst hb8
         refine ⟨true, C3, wt3, al3, dn3, ko3, _, _, ?_, hks2, hal2, rfl, rfl⟩
         unfold sFin
         rw [hs1]
         exact hs2)
      | (have hb8 : b2 = false := by
          cases b2 with
          | false => rfl
          | true => exact absurd c_19 (by decide)
         subst hb8
         refine ⟨false, C3, wt3, al3, dn3, ko3, _, _, ?_, hks2, hal2, rfl, rfl⟩
         unfold sFin
         rw [hs1]
         exact hs2)
      | (have hb8 : b1 = false := by
          cases b1 with
          | false => rfl
          | true => exact absurd c_12 (by decide)
         subst hb8
         refine ⟨false, C2, wt2, al2, dn2, ko2, _, _, ?_, hks1, hal1, rfl, rfl⟩
         unfold sFin
         rw [hs1])
    · refine v_iconst (n := 23) k dX0_finish_22 rfl ?_
      refine v_goto (t := 27) k dX0_finish_23 (by decide) ?_
      refine v_zretU k (by decide) hq ?_ rfl dX0_finish_27
      first
      | (have hb8 : b2 = true := by
          cases b2 with
          | true => rfl
          | false => exact absurd rfl c_19
         subst hb8
         refine ⟨true, C3, wt3, al3, dn3, ko3, _, _, ?_, hks2, hal2, rfl, rfl⟩
         unfold sFin
         rw [hs1]
         exact hs2)
      | (have hb8 : b2 = false := by
          cases b2 with
          | false => rfl
          | true => exact absurd c_19 (by decide)
         subst hb8
         refine ⟨false, C3, wt3, al3, dn3, ko3, _, _, ?_, hks2, hal2, rfl, rfl⟩
         unfold sFin
         rw [hs1]
         exact hs2)
      | (have hb8 : b1 = false := by
          cases b1 with
          | false => rfl
          | true => exact absurd c_12 (by decide)
         subst hb8
         refine ⟨false, C2, wt2, al2, dn2, ko2, _, _, ?_, hks1, hal1, rfl, rfl⟩
         unfold sFin
         rw [hs1])
