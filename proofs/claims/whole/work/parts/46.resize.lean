/-! DOUBLING and HALVING keep the invariant -/
theorem mem_rzL {C : Nat → Nat} {pg lg q : Nat} {c : Nat × (Nat → Nat)} : ∀ {m kk : Nat}, c ∈ rzL C pg lg q m kk ↔ ∃ t, kk ≤ t ∧ t < kk + m ∧ c = (plN C pg lg t, dpg C q t) := by
  intro m
  induction m with
  | zero =>
    intro kk
    exact ⟨fun h => absurd h List.not_mem_nil, fun ⟨t, h1, h2, _⟩ => absurd h1 (by omega)⟩
  | succ m ih =>
    intro kk
    show c ∈ (plN C pg lg kk, dpg C q kk) :: rzL C pg lg q m (kk + 1) ↔ _
    rw [List.mem_cons, ih]
    constructor
    · rintro (h | ⟨t, h1, h2, h3⟩)
      · exact ⟨kk, by omega, by omega, h⟩
      · exact ⟨t, by omega, by omega, h3⟩
    · rintro ⟨t, h1, h2, h3⟩
      by_cases e : t = kk
      · subst e; exact Or.inl h3
      · exact Or.inr ⟨t, by omega, by omega, h3⟩
/-- when the directory may be resized -/
def RZH (C : Nat → Nat) (pg lg q : Nat) : Prop := (q = C 0 + 1 ∨ (q + 1 = C 0 ∧ hbD C pg lg (C 0) = false)) ∧ pF q ≤ cntK C lg 0 pg + pF (C 0) ∧ pF q + 1 ≤ lg
section RZ
variable {C : Nat → Nat} {pg lg q : Nat}
theorem plN_kd (hF : FULL C pg lg) (h : RZH C pg lg q) {k : Nat} (hk : k < pF q) : kdN C lg (plN C pg lg k) ≠ 5 := by
  have hw := hF.1.1
  unfold plN
  by_cases e : k < pF (C 0)
  · rw [if_pos e, pb0, kd_4 (hw.2.2.2.2.2.1 k e) (dirB_mem e rfl)]
    decide
  · rw [if_neg e]
    have h1 : k - pF (C 0) < (freeL C pg lg).length := by rw [freeL_len]; have := h.2.1; omega
    rw [(freeL_mem h1).2]
    decide
theorem plN_inj (hF : FULL C pg lg) (h : RZH C pg lg q) {k k' : Nat} (hk : k < pF q) (hk' : k' < pF q) (e : plN C pg lg k = plN C pg lg k') : k = k' := by
  have hw := hF.1.1
  have fr : ∀ t, t < pF q → ¬ t < pF (C 0) → t - pF (C 0) < (freeL C pg lg).length := fun t ht hn => by rw [freeL_len]; have := h.2.1; omega
  have d4 : ∀ t, t < pF (C 0) → kdN C lg (C (1 + t)) = 4 := fun t ht => kd_4 (hw.2.2.2.2.2.1 t ht) (dirB_mem ht rfl)
  unfold plN at e
  by_cases a : k < pF (C 0)
  · rw [if_pos a, pb0] at e
    by_cases b : k' < pF (C 0)
    · rw [if_pos b, pb0] at e
      exact hF.2.2.2.1 k k' a b e
    · rw [if_neg b] at e
      have := (freeL_mem (fr k' hk' b)).2
      rw [← e, d4 k a] at this
      omega
  · rw [if_neg a] at e
    by_cases b : k' < pF (C 0)
    · rw [if_pos b, pb0] at e
      have := (freeL_mem (fr k hk a)).2
      rw [e, d4 k' b] at this
      omega
    · rw [if_neg b] at e
      have asc := List.pairwise_iff_getElem.mp (freeL_asc C pg lg)
      have l1 := fr k hk a
      have l2 := fr k' hk' b
      rw [List.getD_eq_getElem?_getD, List.getD_eq_getElem?_getD, List.getElem?_eq_getElem l1, List.getElem?_eq_getElem l2] at e
      have e' : (freeL C pg lg)[k - pF (C 0)] = (freeL C pg lg)[k' - pF (C 0)] := e
      rcases Nat.lt_trichotomy (k - pF (C 0)) (k' - pF (C 0)) with z | z | z
      · have := asc _ _ l1 l2 z; omega
      · omega
      · have := asc _ _ l2 l1 z; omega
theorem rz_q (hF : FULL C pg lg) (h : RZH C pg lg q) : q ≤ 14 := by
  have h1 := hF.1.2.2.2
  have h2 := hF.1.1.2.2.2.2.2.2
  rcases Nat.lt_or_ge q 15 with z | z
  · omega
  · have h3 : pF 15 ≤ pF q := by
      unfold pF
      rw [if_neg (by decide), if_neg (by omega)]
      exact Nat.pow_le_pow_right (by decide) (by omega)
    have h4 : pF 15 = 128 := by decide
    have := h.2.2
    omega
theorem rzL_nodup (hF : FULL C pg lg) (h : RZH C pg lg q) : ∀ {m kk : Nat}, kk + m ≤ pF q → ((rzL C pg lg q m kk).map Prod.fst).Nodup := by
  intro m
  induction m with
  | zero => intro kk _; exact List.nodup_nil
  | succ m ih =>
    intro kk hk
    show (plN C pg lg kk :: (rzL C pg lg q m (kk + 1)).map Prod.fst).Nodup
    rw [List.nodup_cons]
    refine ⟨fun z => ?_, ih (by omega)⟩
    obtain ⟨c, hc, e⟩ := List.mem_map.mp z
    obtain ⟨t, h1, h2, h3⟩ := mem_rzL.mp hc
    rw [h3] at e
    have := plN_inj hF h (k := t) (k' := kk) (by omega) (by omega) e
    omega
theorem rz_pl (hF : FULL C pg lg) (h : RZH C pg lg q) : PL pg lg (rzC C pg lg q) := by
  have hw := hF.1.1
  have hq := rz_q hF h
  have inn := fun {k : Nat} (hk : k < pF q) => plN_in (C := C) (q := q) hw hk h.2.1
  refine ⟨by unfold rzC; rw [List.length_append, rzL_len]; exact h.2.2, ?_, fun c hc => ?_⟩
  · unfold rzC
    rw [List.map_append, List.nodup_append]
    refine ⟨rzL_nodup hF h (by omega), List.nodup_cons.mpr ⟨List.not_mem_nil, List.nodup_nil⟩, fun y hy z hz => ?_⟩
    obtain ⟨c, hc, e⟩ := List.mem_map.mp hy
    obtain ⟨t, t1, t2, t3⟩ := mem_rzL.mp hc
    have hz' : z = 0 := List.mem_singleton.mp hz
    rw [t3] at e
    have e' : plN C pg lg t = y := e
    have := (inn (k := t) (by omega)).1
    omega
  · unfold rzC at hc
    rcases List.mem_append.mp hc with hc | hc
    · obtain ⟨t, t1, t2, t3⟩ := mem_rzL.mp hc
      rw [t3]
      have := inn (k := t) (by omega)
      exact ⟨Or.inr this.1, this.2, dpg_lt hw.2.2.1⟩
    · rw [List.mem_singleton.mp hc]
      refine ⟨Or.inl rfl, by have := hw.1; show 0 < pg; omega, fun i hi => ?_⟩
      show hdp C pg lg q (pF q) i < 256
      unfold hdp
      split
      · omega
      · split
        · have := (inn (k := i - 1) (by omega)).2
          have := hw.2.1
          omega
        · decide
/-- the buckets' pages stay as they are -/
theorem rz_ent (hF : FULL C pg lg) (h : RZH C pg lg q) (j : Nat) {i : Nat} (hi : i < 2 ^ C 0) : PG C (apC C ((rzC C pg lg q).take j)) (entN C i) := by
  have hpl := rz_pl hF h
  have h5 := hF.kd5 hi
  have hg := (hF.2.1 i hi).1
  intro t ht
  have hn : lk ((rzC C pg lg q).take j) (entN C i) = none := lk_none (fun c hc e => by
    have hc' := List.mem_of_mem_take hc
    unfold rzC at hc'
    rcases List.mem_append.mp hc' with z | z
    · obtain ⟨k, k1, k2, k3⟩ := mem_rzL.mp z
      rw [k3] at e
      have e' : plN C pg lg k = entN C i := e
      have := plN_kd hF h (k := k) (by omega)
      rw [e'] at this
      exact this h5
    · rw [List.mem_singleton.mp z] at e
      have e' : 0 = entN C i := e
      omega)
  rw [apC_at (nodup_take hpl.2.1 j) C _ t ht, hn]
theorem eN_in (h : RZH C pg lg q) {i : Nat} (hi : i < 2 ^ q) : ∃ t, t < 2 ^ C 0 ∧ eN C q i = entN C t ∧ (q = C 0 + 1 → t = i / 2) ∧ (q + 1 = C 0 → t = 2 * i) := by
  unfold eN
  rcases h.1 with e | ⟨e, -⟩
  · rw [if_pos (by omega)]
    refine ⟨i / 2, ?_, rfl, fun _ => rfl, fun z => absurd z (by omega)⟩
    rw [e, Nat.pow_succ] at hi
    omega
  · rw [if_neg (by omega)]
    refine ⟨2 * i, ?_, rfl, fun z => absurd z (by omega), fun _ => rfl⟩
    rw [← e, Nat.pow_succ]
    omega
/-- the new disk -/
theorem rz_hd (hF : FULL C pg lg) (h : RZH C pg lg q) {i : Nat} (hi : i < 256) : apC C (rzC C pg lg q) i = hdp C pg lg q (pF q) i := by
  have hpl := rz_pl hF h
  have hm : (0, hdp C pg lg q (pF q)) ∈ rzC C pg lg q := by unfold rzC; exact List.mem_append_right _ List.mem_cons_self
  have := apC_at hpl.2.1 C 0 i hi
  rw [lk_mem hpl.2.1 hm, pb0] at this
  exact this
theorem rz_dir (hF : FULL C pg lg) (h : RZH C pg lg q) {k i : Nat} (hk : k < pF q) (hi : i < 256) : pb (apC C (rzC C pg lg q)) (plN C pg lg k) i = dpg C q k i := by
  have hpl := rz_pl hF h
  have hm : (plN C pg lg k, dpg C q k) ∈ rzC C pg lg q := by unfold rzC; exact List.mem_append_left _ (mem_rzL.mpr ⟨k, by omega, by omega, rfl⟩)
  rw [apC_at hpl.2.1 C _ i hi, lk_mem hpl.2.1 hm]
theorem rz_en (hF : FULL C pg lg) (h : RZH C pg lg q) {i : Nat} (hi : i < 2 ^ q) : entN (apC C (rzC C pg lg q)) i = eN C q i := by
  have hq := rz_q hF h
  have h7 := pF_le15 (d := q) (by omega)
  have hk := pF_idx hi
  unfold entN
  rw [pb0, rz_hd hF h (by omega)]
  have e1 : hdp C pg lg q (pF q) (1 + i / 256) = plN C pg lg (i / 256) := by
    unfold hdp
    rw [if_neg (by omega), if_pos (by omega), show 1 + i / 256 - 1 = i / 256 by omega]
  rw [e1, rz_dir hF h hk (by omega)]
  unfold dpg dpi
  rw [if_pos ⟨by omega, by omega⟩, show i / 256 * 256 + i % 256 = i by omega]
theorem rz_full (hF : FULL C pg lg) (h : RZH C pg lg q) : FULL (apC C (rzC C pg lg q)) pg lg := by
  have hpl := rz_pl hF h
  have hq := rz_q hF h
  have hw := hF.1.1
  have h7 := pF_le15 (d := q) (by omega)
  have inn := fun {k : Nat} (hk : k < pF q) => plN_in (C := C) (q := q) hw hk h.2.1
  have e0 : apC C (rzC C pg lg q) 0 = q := by rw [rz_hd hF h (by decide)]; rfl
  have ed : ∀ k, k < pF q → apC C (rzC C pg lg q) (1 + k) = plN C pg lg k := fun k hk => by
    rw [rz_hd hF h (by omega)]
    unfold hdp
    rw [if_neg (by omega), if_pos (by omega), show 1 + k - 1 = k by omega]
  have hpg : ∀ i, i < 2 ^ C 0 → PG C (apC C (rzC C pg lg q)) (entN C i) := fun i hi => by
    have := rz_ent hF h (rzC C pg lg q).length hi
    rw [List.take_length] at this
    exact this
  have hbs : BS q (eN C q) (fun e => pb C e 0) ∧ ∀ i, i < 2 ^ q → pb C (eN C q i) 0 ≤ q := by
    rcases h.1 with e | ⟨e, e9⟩
    · have := BS_double hF.bs (fun i hi => (hF.2.1 i hi).2.2.2.2)
      have ef : eN C q = fun i => entN C (i / 2) := by
        funext i
        unfold eN
        rw [if_pos (by omega)]
      rw [ef, e]
      refine ⟨this, fun i hi => ?_⟩
      rw [Nat.pow_succ] at hi
      have := (hF.2.1 (i / 2) (by omega)).2.2.2.2
      show pb C (entN C (i / 2)) 0 ≤ _
      omega
    · have hlt : ∀ i, i < 2 ^ C 0 → pb C (entN C i) 0 ≤ q := by
        intro i hi
        have h1 := (hF.2.1 i hi).2.2.2.2
        have h2 := (hF.2.1 i hi).2.1
        have h5 := hF.kd5 hi
        rcases Nat.lt_or_ge (pb C (entN C i) 0) (C 0) with z | z
        · omega
        · exfalso
          have h3 : pb C (entN C i) 0 = C 0 := by omega
          unfold hbD at e9
          rw [any_range h2 (by rw [h5, h3]; simp)] at e9
          cases e9
      have hb : BS (q + 1) (entN C) (fun e => pb C e 0) := by rw [e]; exact hF.bs
      have := BS_halve hb (by rw [e]; exact hlt)
      have ef : eN C q = fun i => entN C (2 * i) := by
        funext i
        unfold eN
        rw [if_neg (by omega)]
      rw [ef]
      refine ⟨this, fun i hi => hlt _ ?_⟩
      rw [← e, Nat.pow_succ]
      omega
  have key : ∀ i, i < 2 ^ q → lg + 2 ≤ eN C q i ∧ eN C q i < pg ∧ dirB (apC C (rzC C pg lg q)) (pF q) (eN C q i) = false ∧ WB (apC C (rzC C pg lg q)) (eN C q i) ∧ pb (apC C (rzC C pg lg q)) (eN C q i) 0 = pb C (eN C q i) 0 := by
    intro i hi
    obtain ⟨t, ht, et, -, -⟩ := eN_in h hi
    rw [et]
    obtain ⟨g1, g2, g3, g4, g5⟩ := hF.2.1 t ht
    refine ⟨g1, g2, dirB_f (fun k hk z => ?_), pg_WB (hpg t ht) g4, hpg t ht 0 (by decide)⟩
    rw [ed k hk] at z
    have := plN_kd hF h hk
    rw [z] at this
    exact this (hF.kd5 ht)
  refine ⟨⟨⟨hw.1, hw.2.1, apC_lt hw.2.2.1 (fun c hc => (hpl.2.2 c hc).2.2), by rw [e0]; omega, fun k hk => ?_, fun k hk => ?_, hw.2.2.2.2.2.2⟩, hF.1.2.1, hF.1.2.2.1, by rw [e0]; exact hq⟩, fun i hi => ?_, fun i j hi hj => ?_, fun k k' hk hk' => ?_, fun k j hk hj hd => ?_⟩
  · rw [e0] at hk; rw [ed k hk]; exact (inn hk).2
  · rw [e0] at hk; rw [ed k hk]; exact (inn hk).1
  · rw [e0] at hi ⊢
    rw [rz_en hF h hi]
    obtain ⟨g1, g2, g3, g4, g5⟩ := key i hi
    exact ⟨g1, g2, g3, g4, by rw [g5]; exact hbs.2 i hi⟩
  · rw [e0] at hi hj ⊢
    rw [rz_en hF h hi, rz_en hF h hj, (key i hi).2.2.2.2]
    exact hbs.1 i j hi hj
  · rw [e0] at hk hk'
    rw [ed k hk, ed k' hk']
    exact plN_inj hF h hk hk'
  · rw [e0] at hk hd
    rw [ed k hk, rz_dir hF h hk hj]
    unfold dpg dpi
    rw [if_neg (by omega)]
/-- on the way the HEAD is the old one -/
theorem rz_ok (hF : FULL C pg lg) (h : RZH C pg lg q) (j : Nat) : OKM (apC C ((rzC C pg lg q).take j)) pg lg := by
  have hpl := rz_pl hF h
  have hlen : (rzC C pg lg q).length = pF q + 1 := by unfold rzC; rw [List.length_append, rzL_len]; rfl
  rcases Nat.lt_or_ge j (pF q + 1) with hj | hj
  · have hw := hF.1.1
    have h7 := pF_le15 hw.2.2.2.1
    have hq := rz_q hF h
    have etk : (rzC C pg lg q).take j = (rzL C pg lg q (pF q) 0).take j := by
      unfold rzC
      rw [List.take_append, rzL_len, show j - pF q = 0 by omega, List.take_zero, List.append_nil]
    have hd0 : ∀ i, i < 256 → apC C ((rzC C pg lg q).take j) i = C i := fun i hi => by
      have := apC_at (nodup_take hpl.2.1 j) C 0 i hi
      rw [pb0, pb0] at this
      rw [this]
      have hn : lk ((rzC C pg lg q).take j) 0 = none := lk_none (fun c hc e => by
        rw [etk] at hc
        obtain ⟨t, t1, t2, t3⟩ := mem_rzL.mp (List.mem_of_mem_take hc)
        rw [t3] at e
        have e' : plN C pg lg t = 0 := e
        have := (plN_in (C := C) (q := q) hw (kk := t) (by omega) h.2.1).1
        omega)
      rw [hn]
    have e0 := hd0 0 (by decide)
    refine ⟨⟨hw.1, hw.2.1, apC_lt hw.2.2.1 (fun c hc => (hpl.2.2 c (List.mem_of_mem_take hc)).2.2), by rw [e0]; exact hw.2.2.2.1, fun k hk => ?_, fun k hk => ?_, hw.2.2.2.2.2.2⟩, fun i hi => ?_⟩
    · rw [e0] at hk; rw [hd0 _ (by omega)]; exact hw.2.2.2.2.1 k hk
    · rw [e0] at hk; rw [hd0 _ (by omega)]; exact hw.2.2.2.2.2.1 k hk
    · rw [e0] at hi
      have hk := pF_idx hi
      have ent : ∀ t, t < 2 ^ C 0 → entN C t < pg ∧ (lg + 2 ≤ entN C t → dirB (apC C ((rzC C pg lg q).take j)) (pF (apC C ((rzC C pg lg q).take j) 0)) (entN C t) = false → WB (apC C ((rzC C pg lg q).take j)) (entN C t)) := fun t ht => ⟨(hF.2.1 t ht).2.1, fun _ _ => pg_WB (rz_ent hF h j ht) (hF.2.1 t ht).2.2.2.1⟩
      have e2 : entN C i = pb C (C (1 + i / 256)) (i % 256) := by unfold entN; rw [pb0]
      have e1 : entN (apC C ((rzC C pg lg q).take j)) i = pb (apC C ((rzC C pg lg q).take j)) (C (1 + i / 256)) (i % 256) := by
        unfold entN
        rw [pb0, hd0 _ (by omega)]
      rw [e1, apC_at (nodup_take hpl.2.1 j) C _ _ (by omega)]
      cases e : lk ((rzC C pg lg q).take j) (C (1 + i / 256)) with
      | none =>
        dsimp only
        rw [← e2]
        exact ent i hi
      | some f =>
        have hm := lk_some e
        rw [etk] at hm
        obtain ⟨t, t1, t2, t3⟩ := mem_rzL.mp (List.mem_of_mem_take hm)
        have e3 : f = dpg C q t := congrArg Prod.snd t3
        dsimp only
        rw [e3]
        by_cases r : i % 256 < 256 ∧ t * 256 + i % 256 < 2 ^ q
        · have e4 : dpg C q t (i % 256) = eN C q (t * 256 + i % 256) := by unfold dpg dpi; rw [if_pos r]
          obtain ⟨u, hu, eu, -, -⟩ := eN_in h r.2
          rw [e4, eu]
          exact ent u hu
        · have e4 : dpg C q t (i % 256) = 0 := by unfold dpg dpi; rw [if_neg r]
          rw [e4]
          exact ⟨by have := hw.1; omega, fun z => absurd z (by omega)⟩
  · rw [List.take_of_length_le (by omega)]
    exact (rz_full hF h).ok
theorem rz_chg (hF : FULL C pg lg) (h : RZH C pg lg q) : CHG C (rzC C pg lg q) pg lg := ⟨rz_pl hF h, hF.1.1.2.2.1, fun j => rz_ok hF h j, rz_full hF h⟩
end RZ
