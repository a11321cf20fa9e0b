/-! finding a key, the WRITE of one bucket -/
theorem sbL : ∀ n, n < 256 → (iI (sb n)).toInt64 &&& 255 = (iI ((n : Nat) : Int)).toInt64 := by decide +kernel
section FND
variable {C : Nat → Nat} {p : Nat} {Bd Mn : Nat → Nat} {q : RQ}
theorem ky_eq (h : RB C p Bd Mn q) (T : Nat → Nat) (z : Nat) {r : Nat} (hr : r < pb C p 1) : kyB q T z (90 * p + r) = isK C p T z r := by
  obtain ⟨h1, h2, h3, h4⟩ := rec_eq (h.2.2 r hr)
  unfold kyB isK keq
  rw [h1]
  by_cases e : pb C p (rst C p r) = z
  · rw [beq_iff_eq.mpr e, Bool.true_and, Bool.true_and]
    have key : ∀ n, n ≤ z → (List.range n).all (fun j => kb q (90 * p + r) j == T j) = (List.range n).all (fun i => pb C p (rst C p r + 2 + i) == T i) := by
      intro n
      induction n with
      | zero => intro _; rfl
      | succ n ih =>
        intro hn
        rw [List.range_succ, List.all_append, List.all_append, ih (by omega)]
        simp only [List.all_cons, List.all_nil]
        rw [h3 n (by omega)]
    exact key z (Nat.le_refl z)
  · rw [beq_false_of_ne e, Bool.false_and, Bool.false_and]
theorem fd_eq (h : RB C p Bd Mn q) (T : Nat → Nat) (z : Nat) : fdM q T Mn p z = fnd C p T z := by
  unfold fdM fnd
  rw [h.2.1]
  exact find_congr (fun r hr => ky_eq h T z hr)
theorem fnd_k {T : Nat → Nat} {z r : Nat} (h : fnd C p T z = some r) : r < pb C p 1 ∧ pb C p (rst C p r) = z := by
  have h1 := List.mem_range.mp (List.mem_of_find?_eq_some h)
  have h2 := List.find?_some h
  unfold isK at h2
  rw [Bool.and_eq_true] at h2
  exact ⟨h1, beq_iff_eq.mp h2.1⟩
theorem ls_eq (h : RB C p Bd Mn q) (T : Nat → Nat) (z : Nat) : lsM q T Mn p z = less C p T z := by
  unfold lsM less
  rw [fd_eq h]
  cases e : fnd C p T z with
  | none => rfl
  | some r =>
    obtain ⟨r1, r2⟩ := fnd_k e
    obtain ⟨h1, h2, -⟩ := rec_eq (h.2.2 r r1)
    show 2 + z + q.2.1 (90 * p + r) = rsz C p (rst C p r)
    unfold rsz
    rw [h2, r2]
theorem al_eq (h : RB C p Bd Mn q) (g : Nat) : alM q Mn p g = allH C p g := by
  unfold alM allH
  rw [h.2.1]
  have key : ∀ n, n ≤ pb C p 1 → (List.range n).all (fun r => hxM q (90 * p + r) == g) = (List.range n).all (fun r => rh C p r == g) := by
    intro n
    induction n with
    | zero => intro _; rfl
    | succ n ih =>
      intro hn
      rw [List.range_succ, List.all_append, List.all_append, ih (by omega)]
      simp only [List.all_cons, List.all_nil]
      rw [hx_rh (h.2.2 n (by omega))]
  exact key _ (Nat.le_refl _)
theorem less_le {T : Nat → Nat} {z : Nat} (hw : WB C p) : less C p T z ≤ bL C p := by
  unfold less
  cases e : fnd C p T z with
  | none => exact Nat.zero_le _
  | some r =>
    have h1 := (hw.fit (fnd_k e).1).1
    have h2 := rst_ge C p r
    show rsz C p (rst C p r) ≤ _
    omega
end FND
theorem recS_er {C : Nat → Nat} {p r0 : Nat} {sel : Nat → Bool} (hs : ∀ r, sel r = !(r == r0)) (n : Nat) : recS C p sel n = ((List.range n).map (fun r => recL C p (rst C p r))).eraseIdx r0 := by
  induction n with
  | zero => rfl
  | succ n ih =>
    rw [range_snoc]
    have hl : ((List.range n).map (fun r => recL C p (rst C p r))).length = n := by rw [List.length_map, List.length_range]
    rcases Nat.lt_trichotomy n r0 with h | h | h
    · rw [recS_t (by rw [hs, beq_false_of_ne (by omega)]; rfl), ih, List.eraseIdx_of_length_le (by omega), List.eraseIdx_of_length_le (by rw [List.length_append, hl]; show n + 1 ≤ r0; omega)]
    · subst h
      rw [recS_f (by rw [hs, beq_self_eq_true]; rfl), ih, List.eraseIdx_of_length_le (by omega)]
      have := erase_mid ((List.range n).map (fun r => recL C p (rst C p r))) [] (recL C p (rst C p n))
      rw [hl, List.append_nil] at this
      exact this.symm
    · rw [recS_t (by rw [hs, beq_false_of_ne (by omega)]; rfl), ih, List.eraseIdx_append_of_lt_length (by omega)]
theorem notAt_at (C : Nat → Nat) (p r0 r : Nat) : notAt C p ((rst C p r0 : Nat) : Int) r = !(r == r0) := by
  unfold notAt
  by_cases e : r = r0
  · subst e
    rw [beq_self_eq_true, decide_eq_false (fun z => z rfl)]
    rfl
  · rw [beq_false_of_ne e, decide_eq_true (show ((rst C p r : Nat) : Int) ≠ ((rst C p r0 : Nat) : Int) from fun z => e (rst_inj (C := C) (p := p) (by omega)))]
    rfl
/-- the records of a bucket but that of a key -/
def wL (C : Nat → Nat) (p : Nat) (T : Nat → Nat) (z : Nat) : List (List Nat) := recS C p (notAt C p (fndI C p T z)) (pb C p 1)
theorem wL_some {C : Nat → Nat} {p : Nat} {T : Nat → Nat} {z r : Nat} (h : fnd C p T z = some r) : wL C p T z = (rcL C p).eraseIdx r := by
  unfold wL rcL
  have : fndI C p T z = ((rst C p r : Nat) : Int) := by unfold fndI; rw [h]
  rw [this]
  exact recS_er (notAt_at C p r) _
theorem wL_none {C : Nat → Nat} {p : Nat} {T : Nat → Nat} {z : Nat} (h : fnd C p T z = none) : wL C p T z = rcL C p := by
  unfold wL
  have : fndI C p T z = -1 := by unfold fndI; rw [h]
  rw [this]
  exact allL_rc C p
theorem rcB_tape {q : RQ} {K V : Nat → Int64} {T : Nat → Nat} {u ks z : Nat} (hK : KI q.2.2.1 K (2 * u) 2 T ks) (hV : KI q.2.2.2 V (4 * u) 4 (fun j => T (ks + j)) (z - ks)) (h1 : ks ≤ 16) (h2 : z - ks ≤ 32) (h3 : ks ≤ z) : rcB (upN q.1 u ks, upN q.2.1 u (z - ks), K, V) u = tapL T ks z := by
  unfold rcB tapL
  have e1 : upN q.1 u ks u = ks := if_pos rfl
  have e2 : upN q.2.1 u (z - ks) u = z - ks := if_pos rfl
  show upN q.1 u ks u :: upN q.2.1 u (z - ks) u :: ((List.range (upN q.1 u ks u)).map _ ++ (List.range (upN q.2.1 u (z - ks) u)).map _) = _
  rw [e1, e2]
  congr 2
  have e3 : List.range z = List.range ks ++ (List.range (z - ks)).map (fun i => ks + i) := by
    rw [← List.range_add, show ks + (z - ks) = z by omega]
  rw [e3, List.map_append, List.map_map]
  congr 1
  · exact List.map_congr_left (fun j hj => by
      have hj' := List.mem_range.mp hj
      show by8 (K (2 * u + j / 8)) (j % 8) = _
      rw [hK.2 j (by omega), if_pos hj'])
  · exact List.map_congr_left (fun j hj => by
      have hj' := List.mem_range.mp hj
      show by8 (V (4 * u + j / 8)) (j % 8) = _
      rw [hV.2 j (by omega), if_pos hj']
      rfl)
section WR
variable {C : Nat → Nat} {wt al : Int} {pg lg p i0 : Nat} {Dr En : Nat → Nat} {Ib : Nat → Bool} {Bd Mn0 Mn : Nat → Nat} {q0 q : RQ}
/-- the arrays but for the records of p are the old ones -/
def BUT (p : Nat) (Mn0 : Nat → Nat) (q0 : RQ) (Mn : Nat → Nat) (q : RQ) : Prop := QB q ∧ (∀ j, j ≠ p → Mn j = Mn0 j) ∧ ∀ j r, j ≠ p → r < 90 → rcB q (90 * j + r) = rcB q0 (90 * j + r)
theorem wr_rm (hF : FULL C pg lg) (hi0 : i0 < 2 ^ C 0) (hp : p = entN C i0) (hR : RM C lg Dr En Ib Bd Mn0 q0) (hB : BUT p Mn0 q0 Mn q) (hv : ∀ r ∈ rcs q p (Mn p), VR r) (hl : (rcs q p (Mn p)).flatten.length ≤ 252) (hb : ∀ j, bkM Bd Mn q p j < 256) (hm : ∀ j, Mn j ≤ 84) : FULL (wrp C p (bkM Bd Mn q p)) pg lg ∧ RM (wrp C p (bkM Bd Mn q p)) lg Dr En Ib Bd Mn q := by
  subst hp
  obtain ⟨⟨f1, f2, f3, f4⟩, f5, f6, f7, f8⟩ := id hF
  obtain ⟨p1, p2, p3, p4, p5⟩ := f5 i0 hi0
  have h7 := pF_le15 f1.2.2.2.1
  have hd : Bd (entN C i0) = pb C (entN C i0) 0 := (hR.rb hF hi0).1
  have hbpg : BPG (bkM Bd Mn q (entN C i0)) := ⟨⟨Bd (entN C i0), rcs q (entN C i0) (Mn (entN C i0)), fun _ _ => rfl, hv, hl⟩, fun i _ => hb i⟩
  have hF' := FULL_wr hF hi0 hbpg (by rw [← hd]; rfl)
  refine ⟨hF', ?_⟩
  have hne : ∀ k, k < pF (C 0) → C (1 + k) ≠ entN C i0 := dirB_no p3
  have ha : HA C (wrp C (entN C i0) (bkM Bd Mn q (entN C i0))) := HA.wr f1.2.2.2.1 (by omega) hne
  have e0 := ha.1 0 (by decide)
  have he : ∀ i, i < 2 ^ C 0 → entN (wrp C (entN C i0) (bkM Bd Mn q (entN C i0))) i = entN C i := fun i hi => ha.ent f1.2.2.2.1 hi
  refine RM_new hF' (fun k hk => ?_) (fun i hi => ?_) (fun p9 hp9 => ?_) (fun i hi => ?_) ⟨hR.2.2.2.2.1, hR.2.2.2.2.2.1, hR.2.2.2.2.2.2.1, hm, hB.1⟩
  · rw [e0] at hk
    rw [ha.1 _ (by omega)]
    exact hR.1 k hk
  · rw [e0] at hi
    rw [he i hi]
    exact hR.2.1 i hi
  · rw [hR.ib hF hp9, e0]
    constructor
    · rintro ⟨i, hi, e⟩
      exact ⟨i, hi, by rw [he i hi, e]⟩
    · rintro ⟨i, hi, e⟩
      rw [he i hi] at e
      exact ⟨i, hi, e⟩
  · rw [e0] at hi
    rw [he i hi]
    by_cases r : entN C i = entN C i0
    · rw [r]
      exact PB_RB (PB_wr (fun _ _ => rfl) hv hl)
    · exact pg_RB (RB_keep (hR.rb hF hi) rfl (hB.2.1 _ r) (hR.2.2.2.2.2.2.2.1 _) (fun t ht => hB.2.2 _ t r ht)) (f5 i hi).2.2.2.1 (fun t ht => wrp_out ht r)
theorem wr_run {f : Nat → Nat} (hF : FULL C pg lg) (hj : pb C 1 0 = 0) (hF' : FULL (wrp C p f) pg lg) (hp : 2 ≤ p) {b : Bool} {a9 : DA} (e : sW (C, wt, al, 0) p f = (b, a9)) : (b = true ∧ UPS a9 pg lg ∧ a9.1 = wrp C p f) ∨ (b = false ∧ DWN a9 pg lg ∧ a9.1 = C) := by
  rcases sW_cases (C, wt, al, 0) p f with ⟨h0, r⟩ | ⟨h0, r⟩
  · rw [r] at e
    cases e
    exact Or.inr ⟨rfl, ⟨hF.1.1.2.2.1, rfl, h0, Or.inl ⟨hj, hF⟩⟩, rfl⟩
  · rw [r] at e
    cases e
    exact Or.inl ⟨rfl, ⟨hF'.1.1.2.2.1, rfl, (wrp_out (by decide) (by omega)).trans hj, hF'⟩, rfl⟩
end WR
/-- put, where nothing is refused -/
def pfF (pg lg : Nat) (T : Nat → Nat) (ks z : Nat) (a : DA) : Int × DA := if (sMP pg lg (hsh T 0 ks) T ks z 64 a).1 = 0 then stC (sW (sMP pg lg (hsh T 0 ks) T ks z 64 a).2 (entN (sMP pg lg (hsh T 0 ks) T ks z 64 a).2.1 (idx (sMP pg lg (hsh T 0 ks) T ks z 64 a).2.1 (hsh T 0 ks))) (newB (sMP pg lg (hsh T 0 ks) T ks z 64 a).2.1 (entN (sMP pg lg (hsh T 0 ks) T ks z 64 a).2.1 (idx (sMP pg lg (hsh T 0 ks) T ks z 64 a).2.1 (hsh T 0 ks))) T ks z)) else sMP pg lg (hsh T 0 ks) T ks z 64 a
theorem pf_s {pg lg : Nat} {T : Nat → Nat} {ks z : Nat} {a a' : DA} {s : Int} (h : sMP pg lg (hsh T 0 ks) T ks z 64 a = (s, a')) (hs : s ≠ 0) : pfF pg lg T ks z a = (s, a') := by
  unfold pfF
  rw [h, if_neg hs]
theorem pf_0 {pg lg : Nat} {T : Nat → Nat} {ks z : Nat} {a a' : DA} (h : sMP pg lg (hsh T 0 ks) T ks z 64 a = (0, a')) : pfF pg lg T ks z a = stC (sW a' (entN a'.1 (idx a'.1 (hsh T 0 ks))) (newB a'.1 (entN a'.1 (idx a'.1 (hsh T 0 ks))) T ks z)) := by
  unfold pfF
  rw [h, if_pos rfl]
theorem mp_s {pg lg h : Nat} {T : Nat → Nat} {ks z n : Nat} {a : DA} : sMP pg lg h T ks z (n + 1) a = if plc a.1 (entN a.1 (idx a.1 h)) T ks z = true then (0, a) else if allH a.1 (entN a.1 (idx a.1 h)) h = true then (3, a) else if (sSt a pg lg h).1 = 0 then sMP pg lg h T ks z n (sSt a pg lg h).2 else sSt a pg lg h := rfl
/-- remove, where the key is there -/
def rmF (pg lg : Nat) (h p : Nat) (f : Nat → Nat) (a : DA) : Int × DA := match stC (sW a p f) with
  | (s, a1) => if s = 0 then (if (sMA lg h 64 a1).1 = 4 then (4, (sMA lg h 64 a1).2) else sHA pg lg 64 (sMA lg h 64 a1).2) else (s, a1)
