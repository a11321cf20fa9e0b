/-! CHANGES that write buckets and then tell of them in the directory: SPLIT and MERGE -/
theorem mem_rtL {C : Nat → Nat} {a b q : Nat} {c : Nat × (Nat → Nat)} : ∀ {m kk : Nat}, c ∈ rtL C a b q m kk ↔ ∃ t, kk ≤ t ∧ t < kk + m ∧ c = (pb C 0 (1 + t), rtp C t a b q) := by
  intro m
  induction m with
  | zero =>
    intro kk
    exact ⟨fun h => absurd h List.not_mem_nil, fun ⟨t, h1, h2, _⟩ => absurd h1 (by omega)⟩
  | succ m ih =>
    intro kk
    show c ∈ (pb C 0 (1 + kk), rtp C kk a b q) :: rtL C a b q m (kk + 1) ↔ _
    rw [List.mem_cons, ih]
    constructor
    · rintro (h | ⟨t, h1, h2, h3⟩)
      · exact ⟨kk, by omega, by omega, h⟩
      · exact ⟨t, by omega, by omega, h3⟩
    · rintro ⟨t, h1, h2, h3⟩
      by_cases e : t = kk
      · subst e; exact Or.inl h3
      · exact Or.inr ⟨t, by omega, by omega, h3⟩
theorem rtL_nodup {C : Nat → Nat} {a b q n : Nat} (hi : ∀ k k', k < n → k' < n → C (1 + k) = C (1 + k') → k = k') : ∀ {m kk : Nat}, kk + m ≤ n → ((rtL C a b q m kk).map Prod.fst).Nodup := by
  intro m
  induction m with
  | zero => intro kk _; exact List.nodup_nil
  | succ m ih =>
    intro kk hk
    show (pb C 0 (1 + kk) :: (rtL C a b q m (kk + 1)).map Prod.fst).Nodup
    rw [List.nodup_cons]
    refine ⟨fun h => ?_, ih (by omega)⟩
    obtain ⟨c, hc, e⟩ := List.mem_map.mp h
    obtain ⟨t, h1, h2, h3⟩ := mem_rtL.mp hc
    rw [h3, pb0, pb0] at e
    have := hi t kk (by omega) (by omega) e
    omega
theorem dirB_no {C : Nat → Nat} {n p : Nat} (h : dirB C n p = false) : ∀ k, k < n → C (1 + k) ≠ p := fun k hk e => by
  rw [dirB_mem hk e] at h
  cases h
theorem dirB_f {C : Nat → Nat} {n p : Nat} (h : ∀ k, k < n → C (1 + k) ≠ p) : dirB C n p = false := any_range_f (fun k hk => by rw [pb0]; exact beq_false_of_ne (h k hk))
/-- a page of a bucket, ahead of the directory's -/
def BPG (f : Nat → Nat) : Prop := (∃ d rs, (∀ i, i < 256 → f i = bpg d rs i) ∧ (∀ r ∈ rs, VR r) ∧ rs.flatten.length ≤ 252) ∧ ∀ i, i < 256 → f i < 256
/-- what such a CHANGE is made of -/
def RTH (C : Nat → Nat) (pg lg : Nat) (pre : List (Nat × (Nat → Nat))) (a b x : Nat) : Prop := (∀ c ∈ pre, dirB C (pF (C 0)) c.1 = false ∧ lg + 2 ≤ c.1 ∧ c.1 < pg ∧ BPG c.2) ∧ (pre.map Prod.fst).Nodup ∧ pre.length + dpO a b ≤ lg ∧ a < b ∧ b ≤ 2 ^ C 0 ∧ x < pg ∧ lg + 2 ≤ x ∧ dirB C (pF (C 0)) x = false ∧ (WB C x ∨ ∃ c ∈ pre, c.1 = x)
def rtC (C : Nat → Nat) (pre : List (Nat × (Nat → Nat))) (a b x : Nat) : List (Nat × (Nat → Nat)) := pre ++ rtL C a b x (dpO a b) (a / 256)
section RT
variable {C : Nat → Nat} {pg lg a b x : Nat} {pre : List (Nat × (Nat → Nat))}
theorem rt_k (hF : FULL C pg lg) (h : RTH C pg lg pre a b x) : a / 256 + dpO a b ≤ pF (C 0) ∧ a / 256 ≤ (b - 1) / 256 ∧ a / 256 + dpO a b = (b - 1) / 256 + 1 := by
  obtain ⟨-, -, -, h4, h5, -⟩ := h
  have h1 := pF_idx (d := C 0) (i := b - 1) (by omega)
  have h2 : a / 256 ≤ (b - 1) / 256 := Nat.div_le_div_right (by omega)
  unfold dpO
  omega
theorem rt_pl (hF : FULL C pg lg) (h : RTH C pg lg pre a b x) : PL pg lg (rtC C pre a b x) := by
  obtain ⟨k1, -, -⟩ := rt_k hF h
  obtain ⟨h1, h2, h3, h4, h5, h6, h7, h8, h9⟩ := h
  have w := hF.1.1
  refine ⟨by unfold rtC; rw [List.length_append, rtL_len]; exact h3, ?_, fun c hc => ?_⟩
  · unfold rtC
    rw [List.map_append, List.nodup_append]
    refine ⟨h2, rtL_nodup hF.2.2.2.1 k1, fun y hy z hz => ?_⟩
    obtain ⟨c, hc, e⟩ := List.mem_map.mp hy
    obtain ⟨c', hc', e'⟩ := List.mem_map.mp hz
    obtain ⟨t, t1, t2, t3⟩ := mem_rtL.mp hc'
    rw [t3, pb0] at e'
    intro e2
    have e'' : C (1 + t) = z := e'
    exact dirB_no (h1 c hc).1 t (by omega) (by rw [e'', ← e2, e])
  · unfold rtC at hc
    rcases List.mem_append.mp hc with hc | hc
    · have := h1 c hc
      exact ⟨Or.inr this.2.1, this.2.2.1, this.2.2.2.2⟩
    · obtain ⟨t, t1, t2, t3⟩ := mem_rtL.mp hc
      rw [t3]
      refine ⟨Or.inr ?_, ?_, rtp_lt w.2.2.1 (by have := w.2.1; omega)⟩
      · show lg + 2 ≤ pb C 0 (1 + t)
        rw [pb0]; exact w.2.2.2.2.2.1 t (by omega)
      · show pb C 0 (1 + t) < pg
        rw [pb0]; exact w.2.2.2.2.1 t (by omega)
theorem rt_0 (hF : FULL C pg lg) (h : RTH C pg lg pre a b x) (j : Nat) {i : Nat} (hi : i < 256) : apC C ((rtC C pre a b x).take j) i = C i := by
  have hpl := rt_pl hF h
  obtain ⟨k1, -, -⟩ := rt_k hF h
  have := apC_at (nodup_take hpl.2.1 j) C 0 i hi
  rw [pb0, pb0] at this
  rw [this]
  have hn : lk ((rtC C pre a b x).take j) 0 = none := lk_none (fun c hc e => by
    have hc' := List.mem_of_mem_take hc
    unfold rtC at hc'
    rcases List.mem_append.mp hc' with q | q
    · have := (h.1 c q).2.1; omega
    · obtain ⟨t, t1, t2, t3⟩ := mem_rtL.mp q
      have := hF.1.1.2.2.2.2.2.1 t (by omega)
      rw [t3] at e
      have e' : pb C 0 (1 + t) = 0 := e
      rw [pb0] at e'
      omega)
  rw [hn]
/-- a directory's page on the way -/
theorem rt_dir (hF : FULL C pg lg) (h : RTH C pg lg pre a b x) (j : Nat) {k : Nat} (hk : k < pF (C 0)) : PG C (apC C ((rtC C pre a b x).take j)) (C (1 + k)) ∨ ((∀ i, i < 256 → pb (apC C ((rtC C pre a b x).take j)) (C (1 + k)) i = rtp C k a b x i) ∧ pre.length < j) := by
  have hpl := rt_pl hF h
  obtain ⟨k1, -, -⟩ := rt_k hF h
  cases e : lk ((rtC C pre a b x).take j) (C (1 + k)) with
  | none =>
    refine Or.inl (fun i hi => ?_)
    rw [apC_at (nodup_take hpl.2.1 j) C _ i hi, e]
  | some f =>
    have hm := lk_some e
    unfold rtC at hm
    rw [List.take_append] at hm
    rcases List.mem_append.mp hm with q | q
    · exact absurd rfl (dirB_no (h.1 _ (List.mem_of_mem_take q)).1 k hk)
    · obtain ⟨t, t1, t2, t3⟩ := mem_rtL.mp (List.mem_of_mem_take q)
      have e1 : C (1 + k) = pb C 0 (1 + t) := congrArg Prod.fst t3
      have e2 : f = rtp C t a b x := congrArg Prod.snd t3
      rw [pb0] at e1
      have e3 := hF.2.2.2.1 k t hk (by omega) e1
      refine Or.inr ⟨fun i hi => ?_, ?_⟩
      · rw [apC_at (nodup_take hpl.2.1 j) C _ i hi, e]
        show f i = _
        rw [e2, e3]
      · rcases Nat.lt_or_ge pre.length j with r | r
        · exact r
        · rw [show j - pre.length = 0 by omega, List.take_zero] at q
          cases q
theorem rtp_in {k i : Nat} (hi : i < 256) : rtp C k a b x i = if a ≤ k * 256 + i ∧ k * 256 + i < b then x else pb C (C (1 + k)) i := by
  unfold rtp rti
  rw [if_neg (by omega), pb0]
  by_cases e : a ≤ k * 256 + i ∧ k * 256 + i < b
  · rw [if_pos ⟨hi, e⟩, if_pos e]
  · rw [if_neg (fun z => e z.2), if_neg e]
/-- the entries on the way -/
theorem rt_ent (hF : FULL C pg lg) (h : RTH C pg lg pre a b x) (j : Nat) {i : Nat} (hi : i < 2 ^ C 0) : entN (apC C ((rtC C pre a b x).take j)) i = entN C i ∨ (entN (apC C ((rtC C pre a b x).take j)) i = (if a ≤ i ∧ i < b then x else entN C i) ∧ pre.length < j) := by
  have h7 := pF_le15 hF.1.1.2.2.2.1
  have hk := pF_idx hi
  have e1 : pb (apC C ((rtC C pre a b x).take j)) 0 (1 + i / 256) = C (1 + i / 256) := by rw [pb0, rt_0 hF h j (by omega)]
  have e2 : entN C i = pb C (C (1 + i / 256)) (i % 256) := by unfold entN; rw [pb0]
  unfold entN at e2 ⊢
  rw [e1]
  rcases rt_dir hF h j hk with q | ⟨q, q2⟩
  · exact Or.inl (by rw [q _ (by omega), ← e2])
  · refine Or.inr ⟨?_, q2⟩
    rw [q _ (by omega), rtp_in (by omega), show i / 256 * 256 + i % 256 = i by omega, ← e2]
/-- a bucket's page on the way -/
theorem rt_wb (hF : FULL C pg lg) (h : RTH C pg lg pre a b x) (j : Nat) {p : Nat} (hd : dirB C (pF (C 0)) p = false) (hp : WB C p ∨ ((∃ c ∈ pre, c.1 = p) ∧ pre.length ≤ j)) : WB (apC C ((rtC C pre a b x).take j)) p := by
  have hpl := rt_pl hF h
  obtain ⟨k1, -, -⟩ := rt_k hF h
  cases e : lk ((rtC C pre a b x).take j) p with
  | none =>
    rcases hp with q | ⟨⟨c, hc, e2⟩, q⟩
    · exact pg_WB (fun i hi => by rw [apC_at (nodup_take hpl.2.1 j) C _ i hi, e]) q
    · have hm : c ∈ (rtC C pre a b x).take j := by
        unfold rtC
        rw [List.take_append, List.take_of_length_le q]
        exact List.mem_append_left _ hc
      have := lk_mem (nodup_take hpl.2.1 j) hm
      rw [e2, e] at this
      cases this
  | some f =>
    have hm := List.mem_of_mem_take (lk_some e)
    unfold rtC at hm
    rcases List.mem_append.mp hm with q | q
    · obtain ⟨⟨d, rs, b1, b2, b3⟩, -⟩ := (h.1 _ q).2.2.2
      exact PB_WB (d := d) (rs := rs) ⟨fun i hi => by rw [apC_at (nodup_take hpl.2.1 j) C _ i hi, e]; exact b1 i hi, b2, b3⟩
    · obtain ⟨t, t1, t2, t3⟩ := mem_rtL.mp q
      have e1 : p = pb C 0 (1 + t) := congrArg Prod.fst t3
      rw [pb0] at e1
      exact absurd e1.symm (dirB_no hd t (by omega))
theorem rt_dw (hF : FULL C pg lg) (h : RTH C pg lg pre a b x) (j : Nat) : DW (apC C ((rtC C pre a b x).take j)) pg lg := by
  have hpl := rt_pl hF h
  obtain ⟨w1, w2, w3, w4, w5, w6, w7⟩ := hF.1.1
  have h7 := pF_le15 w4
  have e0 := rt_0 hF h j (i := 0) (by omega)
  refine ⟨w1, w2, apC_lt w3 (fun c hc => (hpl.2.2 c (List.mem_of_mem_take hc)).2.2), by rw [e0]; exact w4, fun k hk => ?_, fun k hk => ?_, w7⟩
  · rw [e0] at hk
    rw [rt_0 hF h j (by omega)]
    exact w5 k hk
  · rw [e0] at hk
    rw [rt_0 hF h j (by omega)]
    exact w6 k hk
theorem rt_ok (hF : FULL C pg lg) (h : RTH C pg lg pre a b x) (j : Nat) : OKM (apC C ((rtC C pre a b x).take j)) pg lg := by
  refine ⟨rt_dw hF h j, fun i hi => ?_⟩
  rw [rt_0 hF h j (by omega)] at hi
  have hf := hF.2.1 i hi
  rcases rt_ent hF h j hi with e | ⟨e, q⟩
  · rw [e]
    exact ⟨hf.2.1, fun _ _ => rt_wb hF h j hf.2.2.1 (Or.inl hf.2.2.2.1)⟩
  · rw [e]
    by_cases r : a ≤ i ∧ i < b
    · rw [if_pos r]
      refine ⟨h.2.2.2.2.2.1, fun _ _ => rt_wb hF h j h.2.2.2.2.2.2.2.1 ?_⟩
      rcases h.2.2.2.2.2.2.2.2 with z | z
      · exact Or.inl z
      · exact Or.inr ⟨z, by omega⟩
    · rw [if_neg r]
      exact ⟨hf.2.1, fun _ _ => rt_wb hF h j hf.2.2.1 (Or.inl hf.2.2.2.1)⟩
/-- the entries at its end -/
theorem rt_end (hF : FULL C pg lg) (h : RTH C pg lg pre a b x) {i : Nat} (hi : i < 2 ^ C 0) : entN (apC C (rtC C pre a b x)) i = if a ≤ i ∧ i < b then x else entN C i := by
  have hpl := rt_pl hF h
  obtain ⟨k1, k2, k3⟩ := rt_k hF h
  have hlen : (rtC C pre a b x).take (rtC C pre a b x).length = rtC C pre a b x := List.take_length
  have h7 := pF_le15 hF.1.1.2.2.2.1
  have e0 := rt_0 hF h (rtC C pre a b x).length (i := 1 + i / 256) (by have := pF_idx hi; omega)
  rw [hlen] at e0
  have e2 : entN C i = pb C (C (1 + i / 256)) (i % 256) := by unfold entN; rw [pb0]
  by_cases hr : a / 256 ≤ i / 256 ∧ i / 256 ≤ (b - 1) / 256
  · have hm : (pb C 0 (1 + i / 256), rtp C (i / 256) a b x) ∈ rtC C pre a b x := by
      unfold rtC
      exact List.mem_append_right _ (mem_rtL.mpr ⟨i / 256, hr.1, by omega, rfl⟩)
    have hk := lk_mem hpl.2.1 hm
    unfold entN
    rw [pb0, e0, apC_at hpl.2.1 C _ _ (by omega)]
    have hk' : lk (rtC C pre a b x) (C (1 + i / 256)) = some (rtp C (i / 256) a b x) := by
      rw [← pb0 C (1 + i / 256)]
      exact hk
    rw [hk']
    show rtp C (i / 256) a b x (i % 256) = _
    rw [rtp_in (by omega), show i / 256 * 256 + i % 256 = i by omega, ← e2]
    rfl
  · have hn : ¬ (a ≤ i ∧ i < b) := fun z => hr ⟨Nat.div_le_div_right z.1, Nat.div_le_div_right (by omega)⟩
    rw [if_neg hn]
    have := rt_ent hF h (rtC C pre a b x).length hi
    rw [hlen] at this
    rcases this with q | ⟨q, -⟩
    · exact q
    · rw [q, if_neg hn]
/-- such a CHANGE -/
theorem rt_chg (hF : FULL C pg lg) (h : RTH C pg lg pre a b x) {dp : Nat → Nat} (hB : BS (C 0) (fun i => if a ≤ i ∧ i < b then x else entN C i) dp) (hd : ∀ i, i < 2 ^ C 0 → pb (apC C (rtC C pre a b x)) (if a ≤ i ∧ i < b then x else entN C i) 0 = dp (if a ≤ i ∧ i < b then x else entN C i) ∧ dp (if a ≤ i ∧ i < b then x else entN C i) ≤ C 0) : CHG C (rtC C pre a b x) pg lg := by
  have hpl := rt_pl hF h
  obtain ⟨k1, k2, k3⟩ := rt_k hF h
  refine ⟨hpl, hF.1.1.2.2.1, fun j => rt_ok hF h j, ?_⟩
  have hlen : (rtC C pre a b x).take (rtC C pre a b x).length = rtC C pre a b x := List.take_length
  have h7 := pF_le15 hF.1.1.2.2.2.1
  have hd0 : ∀ i, i < 256 → apC C (rtC C pre a b x) i = C i := fun i hi => by
    have := rt_0 hF h (rtC C pre a b x).length hi
    rw [hlen] at this
    exact this
  have hdw := rt_dw hF h (rtC C pre a b x).length
  have hwb := fun {p : Nat} => rt_wb hF h (rtC C pre a b x).length (p := p)
  have hdir := fun {k : Nat} => rt_dir hF h (rtC C pre a b x).length (k := k)
  rw [hlen] at hdw
  have hen := fun {i : Nat} (hi : i < 2 ^ C 0) => rt_end hF h hi
  have hpre : pre.length ≤ (rtC C pre a b x).length := by unfold rtC; rw [List.length_append]; omega
  have ddr : ∀ p, dirB (apC C (rtC C pre a b x)) (pF (C 0)) p = dirB C (pF (C 0)) p := fun p => dirB_hd hd0 (by omega)
  have key : ∀ i, i < 2 ^ C 0 → lg + 2 ≤ (if a ≤ i ∧ i < b then x else entN C i) ∧ (if a ≤ i ∧ i < b then x else entN C i) < pg ∧ dirB C (pF (C 0)) (if a ≤ i ∧ i < b then x else entN C i) = false ∧ WB (apC C (rtC C pre a b x)) (if a ≤ i ∧ i < b then x else entN C i) := by
    intro i hi
    have hf := hF.2.1 i hi
    by_cases r : a ≤ i ∧ i < b
    · rw [if_pos r]
      refine ⟨h.2.2.2.2.2.2.1, h.2.2.2.2.2.1, h.2.2.2.2.2.2.2.1, ?_⟩
      have := hwb (p := x) h.2.2.2.2.2.2.2.1 (by
        rcases h.2.2.2.2.2.2.2.2 with z | z
        · exact Or.inl z
        · exact Or.inr ⟨z, hpre⟩)
      rw [hlen] at this
      exact this
    · rw [if_neg r]
      have := hwb (p := entN C i) hf.2.2.1 (Or.inl hf.2.2.2.1)
      rw [hlen] at this
      exact ⟨hf.1, hf.2.1, hf.2.2.1, this⟩
  have e0 : apC C (rtC C pre a b x) 0 = C 0 := hd0 0 (by omega)
  refine ⟨⟨hdw, hF.1.2.1, hF.1.2.2.1, by rw [e0]; exact hF.1.2.2.2⟩, fun i hi => ?_, fun i j hi hj => ?_, fun k k' hk hk' => ?_, fun k j hk hj hd => ?_⟩
  · rw [e0] at hi ⊢
    rw [hen hi, ddr]
    obtain ⟨g1, g2, g3, g4⟩ := key i hi
    exact ⟨g1, g2, g3, g4, by rw [(hd i hi).1]; exact (hd i hi).2⟩
  · rw [e0] at hi hj ⊢
    rw [hen hi, hen hj, (hd i hi).1]
    exact hB i j hi hj
  · rw [e0] at hk hk'
    rw [hd0 _ (by omega), hd0 _ (by omega)]
    exact hF.2.2.2.1 k k' hk hk'
  · rw [e0] at hk hd
    rw [hd0 _ (by omega)]
    have := hdir hk
    rw [hlen] at this
    rcases this with q | ⟨q, -⟩
    · rw [q j hj]
      exact hF.2.2.2.2 k j hk hj hd
    · have := h.2.2.2.2.1
      rw [q j hj, rtp_in hj, if_neg (by omega)]
      exact hF.2.2.2.2 k j hk hj hd
/-- what a written bucket's page holds at its end -/
theorem rt_pre (hF : FULL C pg lg) (h : RTH C pg lg pre a b x) {c : Nat × (Nat → Nat)} (hc : c ∈ pre) {i : Nat} (hi : i < 256) : pb (apC C (rtC C pre a b x)) c.1 i = c.2 i := by
  have hpl := rt_pl hF h
  have hm : c ∈ rtC C pre a b x := by unfold rtC; exact List.mem_append_left _ hc
  rw [apC_at hpl.2.1 C _ i hi, lk_mem hpl.2.1 hm]
theorem rt_oth (hF : FULL C pg lg) (h : RTH C pg lg pre a b x) {p : Nat} (hd : dirB C (pF (C 0)) p = false) (hn : ∀ c ∈ pre, c.1 ≠ p) : PG C (apC C (rtC C pre a b x)) p := by
  have hpl := rt_pl hF h
  obtain ⟨k1, k2, k3⟩ := rt_k hF h
  intro i hi
  have hm : lk (rtC C pre a b x) p = none := lk_none (fun c hc e => by
    unfold rtC at hc
    rcases List.mem_append.mp hc with q | q
    · exact hn c q e
    · obtain ⟨t, t1, t2, t3⟩ := mem_rtL.mp q
      have e1 : c.1 = pb C 0 (1 + t) := congrArg Prod.fst t3
      rw [pb0] at e1
      exact dirB_no hd t (by omega) (by rw [← e1, e]))
  rw [apC_at hpl.2.1 C _ i hi, hm]
end RT
