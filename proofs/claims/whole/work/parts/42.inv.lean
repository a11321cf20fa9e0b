/-! the invariant of the disk, and of a disk whose power went -/
def OKM (C : Nat → Nat) (pg lg : Nat) : Prop := DW C pg lg ∧ EB C pg lg
def FULL (C : Nat → Nat) (pg lg : Nat) : Prop :=
  (DW C pg lg ∧ lg + 4 ≤ pg ∧ 2 ≤ lg ∧ C 0 ≤ 14) ∧
  (∀ i, i < 2 ^ C 0 → lg + 2 ≤ entN C i ∧ entN C i < pg ∧ dirB C (pF (C 0)) (entN C i) = false ∧ WB C (entN C i) ∧ pb C (entN C i) 0 ≤ C 0) ∧
  (∀ i j, i < 2 ^ C 0 → j < 2 ^ C 0 → (entN C j = entN C i ↔ j / 2 ^ (C 0 - pb C (entN C i) 0) = i / 2 ^ (C 0 - pb C (entN C i) 0))) ∧
  (∀ k k', k < pF (C 0) → k' < pF (C 0) → C (1 + k) = C (1 + k') → k = k') ∧
  (∀ k j, k < pF (C 0) → j < 256 → 2 ^ C 0 ≤ k * 256 + j → pb C (C (1 + k)) j = 0)
theorem FULL.ok {C : Nat → Nat} {pg lg : Nat} (h : FULL C pg lg) : OKM C pg lg := ⟨h.1.1, fun i hi => ⟨(h.2.1 i hi).2.1, fun _ _ => (h.2.1 i hi).2.2.2.1⟩⟩
theorem FULL.eok {C : Nat → Nat} {pg lg : Nat} (h : FULL C pg lg) : EOK C pg lg := ⟨h.1.1, h.1.2.1, h.1.2.2.2, fun i hi => ⟨(h.2.1 i hi).1, (h.2.1 i hi).2.1, (h.2.1 i hi).2.2.2.1, (h.2.1 i hi).2.2.2.2⟩⟩
theorem AG0.hd {lg : Nat} {C C' : Nat → Nat} (h : AG0 lg C C') {j : Nat} (hj : j < 256) : C' j = C j := by
  have := h 0 (Or.inl rfl) j hj
  rw [pb0, pb0] at this
  exact this
theorem AG0.ha {lg pg : Nat} {C C' : Nat → Nat} (h : AG0 lg C C') (hw : DW C pg lg) : HA C C' := by
  refine ⟨fun j hj => h.hd hj, fun k hk i hi => h _ (Or.inr ?_) i hi⟩
  rw [pb0]
  exact hw.2.2.2.2.2.1 k hk
theorem AG0.dw {lg pg : Nat} {C C' : Nat → Nat} (h : AG0 lg C C') (hw : DW C pg lg) (hC : ∀ j, C' j < 256) : DW C' pg lg := by
  obtain ⟨w1, w2, w3, w4, w5, w6, w7⟩ := hw
  have h7 := pF_le15 w4
  have e0 : C' 0 = C 0 := h.hd (by omega)
  refine ⟨w1, w2, hC, by rw [e0]; exact w4, fun k hk => ?_, fun k hk => ?_, w7⟩
  · rw [e0] at hk
    rw [h.hd (by omega)]
    exact w5 k hk
  · rw [e0] at hk
    rw [h.hd (by omega)]
    exact w6 k hk
theorem dirB_hd {C C' : Nat → Nat} (h : ∀ j, j < 256 → C' j = C j) {n p : Nat} (hn : n ≤ 255) : dirB C' n p = dirB C n p := by
  have key : ∀ m, m ≤ n → (List.range m).any (fun k => pb C' 0 (1 + k) == p) = (List.range m).any (fun k => pb C 0 (1 + k) == p) := by
    intro m
    induction m with
    | zero => intro _; rfl
    | succ m ih =>
      intro hm
      rw [List.range_succ, List.any_append, List.any_append, ih (by omega)]
      simp only [List.any_cons, List.any_nil]
      rw [pb0, pb0, h _ (by omega)]
  exact key n (Nat.le_refl n)
theorem AG0.dir {lg pg : Nat} {C C' : Nat → Nat} (h : AG0 lg C C') (hw : DW C pg lg) (p : Nat) : dirB C' (pF (C' 0)) p = dirB C (pF (C 0)) p := by
  have h7 := pF_le15 hw.2.2.2.1
  rw [h.hd (by omega)]
  exact dirB_hd (fun j hj => h.hd hj) (by omega)
theorem OKM.ag {lg pg : Nat} {C C' : Nat → Nat} (ho : OKM C pg lg) (h : AG0 lg C C') (hC : ∀ j, C' j < 256) : OKM C' pg lg := by
  refine ⟨h.dw ho.1 hC, fun i hi => ?_⟩
  rw [h.hd (by omega)] at hi
  have e := (h.ha ho.1).ent ho.1.2.2.2.1 hi
  rw [e, h.dir ho.1]
  refine ⟨(ho.2 i hi).1, fun h1 h2 => pg_WB (h _ (Or.inr h1)) ((ho.2 i hi).2 h1 h2)⟩
theorem FULL.ag {lg pg : Nat} {C C' : Nat → Nat} (ho : FULL C pg lg) (h : AG0 lg C C') (hC : ∀ j, C' j < 256) : FULL C' pg lg := by
  obtain ⟨⟨f1, f2, f3, f4⟩, f5, f6, f7, f8⟩ := ho
  have h7 := pF_le15 f1.2.2.2.1
  have e0 : C' 0 = C 0 := h.hd (by omega)
  have he : ∀ i, i < 2 ^ C 0 → entN C' i = entN C i := fun i hi => (h.ha f1).ent f1.2.2.2.1 hi
  have hp : ∀ i, i < 2 ^ C 0 → PG C C' (entN C i) := fun i hi => h _ (Or.inr (f5 i hi).1)
  refine ⟨⟨h.dw f1 hC, f2, f3, by rw [e0]; exact f4⟩, fun i hi => ?_, fun i j hi hj => ?_, fun k k' hk hk' => ?_, fun k j hk hj hd => ?_⟩
  · rw [e0] at hi
    rw [he i hi, h.dir f1, hp i hi 0 (by decide), e0]
    obtain ⟨g1, g2, g3, g4, g5⟩ := f5 i hi
    exact ⟨g1, g2, g3, pg_WB (hp i hi) g4, g5⟩
  · rw [e0] at hi hj
    rw [he i hi, he j hj, hp i hi 0 (by decide), e0]
    exact f6 i j hi hj
  · rw [e0] at hk hk'
    rw [h.hd (by omega), h.hd (by omega)]
    exact f7 k k' hk hk'
  · rw [e0] at hk hd
    rw [h.hd (by omega), h _ (Or.inr (f1.2.2.2.2.2.1 k hk)) j hj]
    exact f8 k j hk hj hd
/-- a CHANGE that may be cut at any write -/
def CHG (C : Nat → Nat) (chs : List (Nat × (Nat → Nat))) (pg lg : Nat) : Prop := PL pg lg chs ∧ (∀ j, C j < 256) ∧ (∀ j, OKM (apC C (chs.take j)) pg lg) ∧ FULL (apC C chs) pg lg
/-- the disk while the power is gone -/
def DNS (C : Nat → Nat) (pg lg : Nat) : Prop := (pb C 1 0 = 0 ∧ FULL C pg lg) ∨ ∃ C0 chs j, CHG C0 chs pg lg ∧ AG0 lg (apC C0 (chs.take j)) C ∧ IMG C chs
def UPS (a : DA) (pg lg : Nat) : Prop := (∀ j, a.1 j < 256) ∧ a.2.2.2 = 0 ∧ pb a.1 1 0 = 0 ∧ FULL a.1 pg lg
def DWN (a : DA) (pg lg : Nat) : Prop := (∀ j, a.1 j < 256) ∧ a.2.2.2 = 1 ∧ a.2.2.1 = 0 ∧ DNS a.1 pg lg
theorem sW_b {a : DA} {p : Nat} {f : Nat → Nat} (h : ∀ j, a.1 j < 256) (hf : ∀ i, i < 256 → f i < 256) : ∀ j, (sW a p f).2.1 j < 256 := by
  rcases sW_cases a p f with ⟨-, e⟩ | ⟨-, e⟩
  · rw [e]; exact h
  · rw [e]; exact wrp_lt h hf
theorem sImg_b {chs : List (Nat × (Nat → Nat))} (hf : ∀ c ∈ chs, ∀ i, i < 256 → c.2 i < 256) : ∀ (i : Nat) (a : DA), (∀ j, a.1 j < 256) → ∀ j, (sImg a i chs).2.1 j < 256 := by
  induction chs with
  | nil => intro i a h; exact h
  | cons c l ih =>
    intro i a h
    have h1 := sW_b (p := 2 + i) h (hf c List.mem_cons_self)
    show ∀ j, (match sW a (2 + i) c.2 with | (false, a') => (false, a') | (true, a') => sImg a' (i + 1) l).2.1 j < 256
    cases e : sW a (2 + i) c.2 with
    | mk b1 a1 =>
      rw [e] at h1
      cases b1
      · exact h1
      · exact ih (fun d hd => hf d (List.mem_cons_of_mem _ hd)) (i + 1) a1 h1
theorem sRep_b : ∀ (m i : Nat) (a : DA), (∀ j, a.1 j < 256) → ∀ j, (sRep m i a).2.1 j < 256 := by
  intro m
  induction m with
  | zero => intro i a h; exact h
  | succ m ih =>
    intro i a h
    have h1 := sW_b (p := pb a.1 1 (1 + i)) (f := pb a.1 (2 + i)) h (fun t _ => h _)
    show ∀ j, (match sW a (pb a.1 1 (1 + i)) (pb a.1 (2 + i)) with | (false, a') => (false, a') | (true, a') => sRep m (i + 1) a').2.1 j < 256
    cases e : sW a (pb a.1 1 (1 + i)) (pb a.1 (2 + i)) with
    | mk b1 a1 =>
      rw [e] at h1
      cases b1
      · exact h1
      · exact ih (i + 1) a1 h1
theorem sSet_b (a : DA) (h : ∀ j, a.1 j < 256) : ∀ j, (sSet a).2.1 j < 256 := by
  have h1 := sRep_b (pb a.1 1 0) 0 a h
  show ∀ j, (match sRep (pb a.1 1 0) 0 a with | (false, a') => (false, a') | (true, a') => sW a' 1 (fun _ => 0)).2.1 j < 256
  cases e : sRep (pb a.1 1 0) 0 a with
  | mk b1 a1 =>
    rw [e] at h1
    cases b1
    · exact h1
    · exact sW_b h1 (fun _ _ => by decide)
theorem jpg_lt {ps : List Nat} (h : ps.length < 256) (h2 : ∀ x ∈ ps, x < 256) (i : Nat) : jpg ps i < 256 := by
  unfold jpg
  split
  · exact h
  · rw [List.getD_eq_getElem?_getD]
    cases e : ps[i - 1]? with
    | none => exact (by decide : 0 < 256)
    | some x => exact h2 x (List.mem_of_getElem? e)
theorem PL.jp {pg lg : Nat} {chs : List (Nat × (Nat → Nat))} (hP : PL pg lg chs) (hlg : lg ≤ 100) (hpg : pg ≤ 255) (i : Nat) : jpg (chs.map Prod.fst) i < 256 := by
  have := hP.1
  refine jpg_lt (by rw [List.length_map]; omega) (fun x hx => ?_) i
  obtain ⟨c, hc, rfl⟩ := List.mem_map.mp hx
  have := (hP.2.2 c hc).2.1
  omega
theorem sChg_b {pg lg : Nat} {chs : List (Nat × (Nat → Nat))} (hP : PL pg lg chs) (hlg : lg ≤ 100) (hpg : pg ≤ 255) (a : DA) (h : ∀ j, a.1 j < 256) : ∀ j, (sChg a chs).2.1 j < 256 := by
  have h1 := sImg_b (chs := chs) (fun c hc => (hP.2.2 c hc).2.2) 0 a h
  show ∀ j, (match sImg a 0 chs with | (false, a') => (false, a') | (true, a') => sFin a' (chs.map Prod.fst)).2.1 j < 256
  cases e : sImg a 0 chs with
  | mk b1 a1 =>
    rw [e] at h1
    cases b1
    · exact h1
    · have h2 := sW_b (p := 1) (f := jpg (chs.map Prod.fst)) h1 (fun i _ => hP.jp hlg hpg i)
      show ∀ j, (match sW a1 1 (jpg (chs.map Prod.fst)) with | (false, a') => (false, a') | (true, a') => sSet a').2.1 j < 256
      cases e2 : sW a1 1 (jpg (chs.map Prod.fst)) with
      | mk b2 a2 =>
        rw [e2] at h2
        cases b2
        · exact h2
        · exact sSet_b a2 h2
/-- a CHANGE keeps the invariant -/
theorem CHG.run {C : Nat → Nat} {chs : List (Nat × (Nat → Nat))} {pg lg : Nat} (h : CHG C chs pg lg) (hF : FULL C pg lg) (hj : pb C 1 0 = 0) {wt al : Int} {b : Bool} {a9 : DA} (e : sChg (C, wt, al, 0) chs = (b, a9)) : (b = true ∧ UPS a9 pg lg ∧ AG0 lg (apC C chs) a9.1) ∨ (b = false ∧ DWN a9 pg lg) := by
  have hb : ∀ j, a9.1 j < 256 := by
    have := sChg_b h.1 hF.1.1.2.2.2.2.2.2 hF.1.1.2.1 (C, wt, al, 0) h.2.1
    rw [e] at this
    exact this
  rcases sChg_states h.1 hF.1.1.2.2.2.2.2.2 e with ⟨h1, h2, h3, h4⟩ | ⟨h1, h2, h3, h4⟩
  · exact Or.inl ⟨h1, ⟨hb, h2, h4 0 (by decide), h.2.2.2.ag h3 hb⟩, h3⟩
  · refine Or.inr ⟨h1, hb, h3, h2, ?_⟩
    rcases h4 with ⟨h5, h6⟩ | ⟨j, -, h6, h7⟩
    · exact Or.inl ⟨by rw [h6 0 (by decide)]; exact hj, hF.ag h5 hb⟩
    · exact Or.inr ⟨C, chs, j, h, h6, h7⟩
theorem DNS.ok {C : Nat → Nat} {pg lg : Nat} (h : DNS C pg lg) (hC : ∀ j, C j < 256) : OKM C pg lg := by
  rcases h with ⟨-, h⟩ | ⟨C0, chs, j, h1, h2, -⟩
  · exact h.ok
  · exact (h1.2.2.1 j).ag h2 hC
/-- the prefix of a prefix, and on -/
theorem apC_max {chs : List (Nat × (Nat → Nat))} (hn : (chs.map Prod.fst).Nodup) {C0 X : Nat → Nat} {lg i j : Nat} (h : AG0 lg (apC C0 (chs.take j)) X) : AG0 lg (apC C0 (chs.take (max i j))) (apC X (chs.take i)) := by
  intro p hp t ht
  have key : ∀ a b f, a ≤ b → lk (chs.take a) p = some f → lk (chs.take b) p = some f := by
    intro a b f hab hf
    have : chs.take a = (chs.take b).take a := by rw [List.take_take, Nat.min_eq_left hab]
    rw [this] at hf
    exact lk_take hf
  rw [apC_at (nodup_take hn _) _ _ _ ht, apC_at (nodup_take hn _) _ _ _ ht]
  cases e : lk (chs.take i) p with
  | some f =>
    rw [key _ _ f (Nat.le_max_left i j) e]
  | none =>
    show pb X p t = _
    rw [h p hp t ht, apC_at (nodup_take hn _) _ _ _ ht]
    cases e2 : lk (chs.take j) p with
    | some f => rw [key _ _ f (Nat.le_max_right i j) e2]
    | none =>
      rcases Nat.le_total i j with q | q
      · rw [Nat.max_eq_right q, e2]
      · rw [Nat.max_eq_left q, e]
/-- a recovery -/
theorem DNS.run {C0 : Nat → Nat} {chs : List (Nat × (Nat → Nat))} {pg lg j : Nat} (h : CHG C0 chs pg lg) {a a9 : DA} {b : Bool} (ha : ∀ t, a.1 t < 256) (h0 : a.2.2.2 = 0) (hag : AG0 lg (apC C0 (chs.take j)) a.1) (hI : IMG a.1 chs) (e : sSet a = (b, a9)) : (b = true ∧ UPS a9 pg lg) ∨ (b = false ∧ DWN a9 pg lg) := by
  have hlg := h.2.2.2.1.1.2.2.2.2.2.2
  have hl := h.1.1
  have hb : ∀ t, a9.1 t < 256 := by
    have := sSet_b a ha
    rw [e] at this
    exact this
  have hn0 : pb a.1 1 0 = chs.length := by
    rw [hI.1 0 (by decide)]
    show (chs.map Prod.fst).length = _
    rw [List.length_map]
  have h7 : (match sRep chs.length 0 a with | (false, a') => (false, a') | (true, a') => sW a' 1 (fun _ => 0)) = (b, a9) := by
    rw [← e, ← hn0]
    rfl
  rw [sRep_put h.1 chs.length 0 a (by omega) (by omega) hI, List.drop_zero] at h7
  have keepI : ∀ l : List (Nat × (Nat → Nat)), (∀ c ∈ l, c.1 = 0 ∨ lg + 2 ≤ c.1) → ∀ X : Nat → Nat, IMG X chs → IMG (apC X l) chs := by
    intro l
    induction l with
    | nil => intro _ X hX; exact hX
    | cons c l ih => intro hc X hX; exact ih (fun d hd => hc d (List.mem_cons_of_mem _ hd)) _ (hX.wr hl (hc c List.mem_cons_self))
  have hall : AG0 lg (apC C0 chs) (apC a.1 chs) := by
    have := apC_max (i := max chs.length j) h.1.2.1 hag
    rw [List.take_of_length_le (by omega), List.take_of_length_le (by omega)] at this
    exact this
  cases e2 : sPut a chs with
  | mk b2 a2 =>
    rw [e2] at h7
    rcases sPut_states _ b2 a2 e2 with ⟨rfl, k2, k3⟩ | ⟨rfl, k2, k3, i, hi, k4⟩
    · have h6 : sW a2 1 (fun _ => 0) = (b, a9) := h7
      rcases sW_cases a2 1 (fun _ => 0) with ⟨e0, e1⟩ | ⟨-, e1⟩
      · rw [e1] at h6
        cases h6
        refine Or.inr ⟨rfl, hb, rfl, e0, Or.inr ⟨C0, chs, chs.length, h, ?_, ?_⟩⟩
        · rw [List.take_length]
          have : AG0 lg (apC C0 chs) a2.1 := by rw [k2]; exact hall
          exact this
        · have : IMG a2.1 chs := by rw [k2]; exact keepI chs (fun c hc => (h.1.2.2 c hc).1) _ hI
          exact this
      · rw [e1] at h6
        cases h6
        have hz9 : AG0 lg a2.1 (wrp a2.1 1 (fun _ => 0)) := fun p hp i hi => wrp_out hi (by omega)
        have hy9 : AG0 lg (apC C0 chs) a2.1 := by rw [k2]; exact hall
        have hx9 : pb (wrp a2.1 1 (fun _ => 0)) 1 0 = (fun _ => 0 : Nat → Nat) 0 := wrp_in (by decide)
        exact Or.inl ⟨rfl, hb, k3.trans h0, hx9, h.2.2.2.ag (hy9.tr hz9) hb⟩
    · have h6 : (false, a2) = (b, a9) := h7
      cases h6
      refine Or.inr ⟨rfl, hb, k3, k2, Or.inr ⟨C0, chs, max i j, h, ?_, ?_⟩⟩
      · rw [k4]
        exact apC_max h.1.2.1 hag
      · rw [k4]
        exact keepI _ (fun c hc => (h.1.2.2 c (List.mem_of_mem_take hc)).1) _ hI
