/-! a CHANGE, write by write -/
theorem wrp_congr {C f g : Nat → Nat} {p : Nat} (h : ∀ i, i < 256 → f i = g i) : wrp C p f = wrp C p g := by
  funext k
  unfold wrp cpN
  by_cases e : p * 256 ≤ k ∧ k < p * 256 + 256
  · rw [if_pos e, if_pos e]
    exact h _ (by omega)
  · rw [if_neg e, if_neg e]
theorem sW_congr {a : DA} {f g : Nat → Nat} {p : Nat} (h : ∀ i, i < 256 → f i = g i) : sW a p f = sW a p g := by
  unfold sW
  rw [wrp_congr h]
def apC (C : Nat → Nat) : List (Nat × (Nat → Nat)) → (Nat → Nat)
  | [] => C
  | c :: l => apC (wrp C c.1 c.2) l
theorem apC_app (C : Nat → Nat) (l m : List (Nat × (Nat → Nat))) : apC C (l ++ m) = apC (apC C l) m := by
  induction l generalizing C with
  | nil => rfl
  | cons c l ih => exact ih _
def lk (l : List (Nat × (Nat → Nat))) (p : Nat) : Option (Nat → Nat) := (l.find? (fun c => c.1 == p)).map Prod.snd
theorem lk_cons (c : Nat × (Nat → Nat)) (l : List (Nat × (Nat → Nat))) (p : Nat) : lk (c :: l) p = if c.1 = p then some c.2 else lk l p := by
  unfold lk
  rw [List.find?_cons]
  by_cases e : c.1 = p
  · rw [if_pos e, show (c.1 == p) = true from beq_iff_eq.mpr e]
    rfl
  · rw [if_neg e, show (c.1 == p) = false from beq_false_of_ne e]
theorem lk_none {l : List (Nat × (Nat → Nat))} {p : Nat} (h : ∀ c ∈ l, c.1 ≠ p) : lk l p = none := by
  unfold lk
  rw [List.find?_eq_none.mpr (fun c hc => by rw [show (c.1 == p) = false from beq_false_of_ne (h c hc)]; decide)]
  rfl
theorem lk_some {l : List (Nat × (Nat → Nat))} {p : Nat} {f : Nat → Nat} (h : lk l p = some f) : (p, f) ∈ l := by
  unfold lk at h
  obtain ⟨c, hc, e⟩ := Option.map_eq_some_iff.mp h
  have h1 := List.find?_some hc
  have h2 := List.mem_of_find?_eq_some hc
  have h3 : c.1 = p := beq_iff_eq.mp h1
  rw [← h3, ← e]
  exact h2
theorem lk_mem {l : List (Nat × (Nat → Nat))} (hn : (l.map Prod.fst).Nodup) {c : Nat × (Nat → Nat)} (h : c ∈ l) : lk l c.1 = some c.2 := by
  induction l with
  | nil => cases h
  | cons d l ih =>
    rw [lk_cons]
    rw [List.map_cons, List.nodup_cons] at hn
    rcases List.mem_cons.mp h with e | e
    · rw [e, if_pos rfl]
    · rw [if_neg (fun e2 => hn.1 (by rw [e2]; exact List.mem_map.mpr ⟨c, e, rfl⟩))]
      exact ih hn.2 e
theorem apC_at {l : List (Nat × (Nat → Nat))} (hn : (l.map Prod.fst).Nodup) (C : Nat → Nat) (p i : Nat) (hi : i < 256) : pb (apC C l) p i = match lk l p with
    | some f => f i
    | none => pb C p i := by
  induction l generalizing C with
  | nil => rfl
  | cons c l ih =>
    rw [List.map_cons, List.nodup_cons] at hn
    show pb (apC (wrp C c.1 c.2) l) p i = _
    rw [ih hn.2, lk_cons]
    by_cases e : c.1 = p
    · rw [if_pos e]
      have : lk l p = none := lk_none (fun d hd e2 => hn.1 (by rw [e, ← e2]; exact List.mem_map.mpr ⟨d, hd, rfl⟩))
      rw [this, ← e]
      exact wrp_in hi
    · rw [if_neg e]
      cases lk l p with
      | some f => rfl
      | none => exact wrp_out hi (fun z => e z.symm)
theorem apC_lt {l : List (Nat × (Nat → Nat))} {C : Nat → Nat} (hC : ∀ j, C j < 256) (h : ∀ c ∈ l, ∀ i, i < 256 → c.2 i < 256) : ∀ j, apC C l j < 256 := by
  induction l generalizing C with
  | nil => exact hC
  | cons c l ih => exact ih (wrp_lt hC (h c List.mem_cons_self)) (fun d hd => h d (List.mem_cons_of_mem _ hd))
theorem lk_take {l : List (Nat × (Nat → Nat))} {j p : Nat} {f : Nat → Nat} (h : lk (l.take j) p = some f) : lk l p = some f := by
  induction l generalizing j with
  | nil => rw [List.take_nil] at h; exact h
  | cons c l ih =>
    cases j with
    | zero => rw [List.take_zero] at h; exact absurd h (by simp [lk])
    | succ j =>
      rw [List.take_succ_cons, lk_cons] at h
      rw [lk_cons]
      split
      · rename_i e; rw [if_pos e] at h; exact h
      · rename_i e; rw [if_neg e] at h; exact ih h
theorem nodup_take {l : List (Nat × (Nat → Nat))} (hn : (l.map Prod.fst).Nodup) (j : Nat) : ((l.take j).map Prod.fst).Nodup := by
  rw [List.map_take]
  exact hn.sublist (List.take_sublist _ _)
/-- where a CHANGE may write, and what -/
def PL (pg lg : Nat) (chs : List (Nat × (Nat → Nat))) : Prop := chs.length ≤ lg ∧ (chs.map Prod.fst).Nodup ∧ ∀ c ∈ chs, (c.1 = 0 ∨ lg + 2 ≤ c.1) ∧ c.1 < pg ∧ ∀ i, i < 256 → c.2 i < 256
def AG0 (lg : Nat) (C C' : Nat → Nat) : Prop := ∀ p, (p = 0 ∨ lg + 2 ≤ p) → PG C C' p
theorem AG0.rf {lg : Nat} {C : Nat → Nat} : AG0 lg C C := fun _ _ _ _ => rfl
theorem AG0.tr {lg : Nat} {C C' C'' : Nat → Nat} (h : AG0 lg C C') (g : AG0 lg C' C'') : AG0 lg C C'' := fun p hp i hi => (g p hp i hi).trans (h p hp i hi)
theorem AG0.sm {lg : Nat} {C C' : Nat → Nat} (h : AG0 lg C C') : AG0 lg C' C := fun p hp i hi => (h p hp i hi).symm
/-- the JOURNAL and the images tell of this CHANGE -/
def IMG (C : Nat → Nat) (chs : List (Nat × (Nat → Nat))) : Prop := (∀ i, i < 256 → pb C 1 i = jpg (chs.map Prod.fst) i) ∧ ∀ k c, chs[k]? = some c → ∀ i, i < 256 → pb C (2 + k) i = c.2 i
def sPut : DA → List (Nat × (Nat → Nat)) → Bool × DA
  | a, [] => (true, a)
  | a, c :: l => match sW a c.1 c.2 with
    | (false, a') => (false, a')
    | (true, a') => sPut a' l
theorem sW_cases (a : DA) (p : Nat) (f : Nat → Nat) : (a.2.2.1 = 0 ∧ sW a p f = (false, a.1, a.2.1, a.2.2.1, 1)) ∨ (a.2.2.1 ≠ 0 ∧ sW a p f = (true, wrp a.1 p f, a.2.1 + 1, alW a.2.2.1, a.2.2.2)) := by
  unfold sW
  by_cases e : a.2.2.1 = 0
  · exact Or.inl ⟨e, if_pos e⟩
  · exact Or.inr ⟨e, if_neg e⟩
theorem IMG.wr {C f : Nat → Nat} {chs : List (Nat × (Nat → Nat))} {lg p : Nat} (h : IMG C chs) (hl : chs.length ≤ lg) (hp : p = 0 ∨ lg + 2 ≤ p) : IMG (wrp C p f) chs := by
  refine ⟨fun i hi => by rw [wrp_out hi (by omega)]; exact h.1 i hi, fun k c hk i hi => ?_⟩
  have : k < chs.length := by
    rcases Nat.lt_or_ge k chs.length with q | q
    · exact q
    · rw [List.getElem?_eq_none q] at hk; cases hk
  rw [wrp_out hi (by omega)]
  exact h.2 k c hk i hi
theorem sRep_put {pg lg : Nat} {chs : List (Nat × (Nat → Nat))} (hP : PL pg lg chs) : ∀ (m i : Nat) (a : DA), i + m = chs.length → chs.length ≤ 253 → IMG a.1 chs → sRep m i a = sPut a (chs.drop i) := by
  intro m
  induction m with
  | zero =>
    intro i a hi _ _
    rw [List.drop_eq_nil_of_le (by omega)]
    rfl
  | succ m ih =>
    intro i a hi h253 hI
    have hlt : i < chs.length := by omega
    rw [List.drop_eq_getElem_cons hlt]
    have hc : chs[i] ∈ chs := List.getElem_mem hlt
    have e1 : pb a.1 1 (1 + i) = chs[i].1 := by
      rw [hI.1 _ (by omega)]
      show (if 1 + i = 0 then _ else (chs.map Prod.fst).getD (1 + i - 1) 0) = _
      rw [if_neg (by omega), show 1 + i - 1 = i by omega, List.getD_eq_getElem?_getD, List.getElem?_map, List.getElem?_eq_getElem hlt]
      rfl
    have e2 : sW a (pb a.1 1 (1 + i)) (pb a.1 (2 + i)) = sW a chs[i].1 chs[i].2 := by
      rw [e1]
      exact sW_congr (hI.2 i _ (List.getElem?_eq_getElem hlt))
    show (match sW a (pb a.1 1 (1 + i)) (pb a.1 (2 + i)) with | (false, a') => (false, a') | (true, a') => sRep m (i + 1) a') = (match sW a chs[i].1 chs[i].2 with | (false, a') => (false, a') | (true, a') => sPut a' (chs.drop (i + 1)))
    rw [e2]
    rcases sW_cases a chs[i].1 chs[i].2 with ⟨-, e⟩ | ⟨-, e⟩
    · rw [e]
    · rw [e]
      exact ih (i + 1) _ (by omega) h253 (hI.wr hP.1 (hP.2.2 _ hc).1)
/-- how far the writes of a CHANGE came -/
theorem sPut_states {chs : List (Nat × (Nat → Nat))} : ∀ (a : DA) (b : Bool) (a9 : DA), sPut a chs = (b, a9) → (b = true ∧ a9.1 = apC a.1 chs ∧ a9.2.2.2 = a.2.2.2) ∨ (b = false ∧ a9.2.2.1 = 0 ∧ a9.2.2.2 = 1 ∧ ∃ j, j < chs.length ∧ a9.1 = apC a.1 (chs.take j)) := by
  induction chs with
  | nil =>
    intro a b a9 h
    cases h
    exact Or.inl ⟨rfl, rfl, rfl⟩
  | cons c l ih =>
    intro a b a9 h
    have h' : (match sW a c.1 c.2 with | (false, a') => (false, a') | (true, a') => sPut a' l) = (b, a9) := h
    rcases sW_cases a c.1 c.2 with ⟨e0, e⟩ | ⟨-, e⟩
    · rw [e] at h'
      cases h'
      exact Or.inr ⟨rfl, e0, rfl, 0, by simp, rfl⟩
    · rw [e] at h'
      rcases ih _ b a9 h' with ⟨h1, h2, h3⟩ | ⟨h1, h2, h3, j, hj, h4⟩
      · exact Or.inl ⟨h1, h2, h3⟩
      · exact Or.inr ⟨h1, h2, h3, j + 1, by simp; exact hj, h4⟩
theorem sImg_states {chs : List (Nat × (Nat → Nat))} : ∀ (i : Nat) (a : DA) (b : Bool) (a9 : DA), sImg a i chs = (b, a9) → (∀ p, (p < 2 + i ∨ 2 + i + chs.length ≤ p) → PG a.1 a9.1 p) ∧ ((b = true ∧ a9.2.2.2 = a.2.2.2 ∧ ∀ k c, chs[k]? = some c → ∀ t, t < 256 → pb a9.1 (2 + i + k) t = c.2 t) ∨ (b = false ∧ a9.2.2.1 = 0 ∧ a9.2.2.2 = 1)) := by
  induction chs with
  | nil =>
    intro i a b a9 h
    cases h
    exact ⟨fun _ _ _ _ => rfl, Or.inl ⟨rfl, rfl, fun k c hk => by cases hk⟩⟩
  | cons c l ih =>
    intro i a b a9 h
    have h' : (match sW a (2 + i) c.2 with | (false, a') => (false, a') | (true, a') => sImg a' (i + 1) l) = (b, a9) := h
    rcases sW_cases a (2 + i) c.2 with ⟨e0, e⟩ | ⟨-, e⟩
    · rw [e] at h'
      cases h'
      exact ⟨fun _ _ _ _ => rfl, Or.inr ⟨rfl, e0, rfl⟩⟩
    · rw [e] at h'
      obtain ⟨h1, h2⟩ := ih (i + 1) _ b a9 h'
      refine ⟨fun p hp t ht => ?_, ?_⟩
      · have hl : (c :: l).length = l.length + 1 := rfl
        rw [h1 p (by omega) t ht]
        exact wrp_out ht (by omega)
      · rcases h2 with ⟨h3, h4, h5⟩ | h3
        · refine Or.inl ⟨h3, h4, fun k c9 hk t ht => ?_⟩
          cases k with
          | zero =>
            cases hk
            rw [h1 (2 + i + 0) (Or.inl (by omega)) t ht]
            exact wrp_in ht
          | succ k =>
            have := h5 k c9 hk t ht
            rw [show 2 + i + (k + 1) = 2 + (i + 1) + k by omega]
            exact this
        · exact Or.inr h3
/-- a CHANGE: done, or the power went -/
theorem sChg_states {pg lg : Nat} {chs : List (Nat × (Nat → Nat))} (hP : PL pg lg chs) (hlg : lg ≤ 100) {a a9 : DA} {b : Bool} (h : sChg a chs = (b, a9)) : (b = true ∧ a9.2.2.2 = a.2.2.2 ∧ AG0 lg (apC a.1 chs) a9.1 ∧ ∀ i, i < 256 → pb a9.1 1 i = 0) ∨ (b = false ∧ a9.2.2.1 = 0 ∧ a9.2.2.2 = 1 ∧ ((AG0 lg a.1 a9.1 ∧ PG a.1 a9.1 1) ∨ ∃ j, j ≤ chs.length ∧ AG0 lg (apC a.1 (chs.take j)) a9.1 ∧ IMG a9.1 chs)) := by
  have h9 : (match sImg a 0 chs with | (false, a') => (false, a') | (true, a') => sFin a' (chs.map Prod.fst)) = (b, a9) := h
  have hl := hP.1
  cases e1 : sImg a 0 chs with
  | mk b1 a1 =>
    rw [e1] at h9
    obtain ⟨g1, g2⟩ := sImg_states 0 a b1 a1 e1
    have ag : AG0 lg a.1 a1.1 := fun p hp => g1 p (by omega)
    rcases g2 with ⟨rfl, g4, g5⟩ | ⟨rfl, g4, g5⟩
    · have h8 : (match sW a1 1 (jpg (chs.map Prod.fst)) with | (false, a') => (false, a') | (true, a') => sSet a') = (b, a9) := h9
      rcases sW_cases a1 1 (jpg (chs.map Prod.fst)) with ⟨e0, e⟩ | ⟨-, e⟩
      · rw [e] at h8
        cases h8
        exact Or.inr ⟨rfl, e0, rfl, Or.inl ⟨ag, g1 1 (by omega)⟩⟩
      · rw [e] at h8
        have hI : IMG (wrp a1.1 1 (jpg (chs.map Prod.fst))) chs := by
          refine ⟨fun i hi => wrp_in hi, fun k c hk i hi => ?_⟩
          rw [wrp_out hi (by omega)]
          exact g5 k c hk i hi
        have hn0 : pb (wrp a1.1 1 (jpg (chs.map Prod.fst))) 1 0 = chs.length := by
          rw [wrp_in (by decide)]
          show (chs.map Prod.fst).length = _
          rw [List.length_map]
        have hw1 : AG0 lg a1.1 (wrp a1.1 1 (jpg (chs.map Prod.fst))) := fun p hp i hi => wrp_out hi (by omega)
        have h7 : (match sRep chs.length 0 (wrp a1.1 1 (jpg (chs.map Prod.fst)), a1.2.1 + 1, alW a1.2.2.1, a1.2.2.2) with | (false, a') => (false, a') | (true, a') => sW a' 1 (fun _ => 0)) = (b, a9) := by
          rw [← h8, ← hn0]
          rfl
        rw [sRep_put hP chs.length 0 _ (by omega) (by omega) hI, List.drop_zero] at h7
        cases e2 : sPut (wrp a1.1 1 (jpg (chs.map Prod.fst)), a1.2.1 + 1, alW a1.2.2.1, a1.2.2.2) chs with
        | mk b2 a2 =>
          rw [e2] at h7
          have keepI : ∀ l : List (Nat × (Nat → Nat)), (∀ c ∈ l, c.1 = 0 ∨ lg + 2 ≤ c.1) → ∀ X : Nat → Nat, IMG X chs → IMG (apC X l) chs := by
            intro l
            induction l with
            | nil => intro _ X hX; exact hX
            | cons c l ih => intro hc X hX; exact ih (fun d hd => hc d (List.mem_cons_of_mem _ hd)) _ (hX.wr hl (hc c List.mem_cons_self))
          have keepA : ∀ l : List (Nat × (Nat → Nat)), ∀ X Y : Nat → Nat, AG0 lg X Y → AG0 lg (apC X l) (apC Y l) := by
            intro l
            induction l with
            | nil => intro X Y hX; exact hX
            | cons c l ih =>
              intro X Y hX
              refine ih _ _ (fun p hp i hi => ?_)
              by_cases e : p = c.1
              · rw [e, wrp_in hi, wrp_in hi]
              · rw [wrp_out hi e, wrp_out hi e]
                exact hX p hp i hi
          rcases sPut_states _ b2 a2 e2 with ⟨rfl, k2, k3⟩ | ⟨rfl, k2, k3, j, hj, k4⟩
          · have h6 : sW a2 1 (fun _ => 0) = (b, a9) := h7
            rcases sW_cases a2 1 (fun _ => 0) with ⟨e0, e⟩ | ⟨-, e⟩
            · rw [e] at h6
              cases h6
              refine Or.inr ⟨rfl, e0, rfl, Or.inr ⟨chs.length, Nat.le_refl _, ?_, ?_⟩⟩
              · rw [List.take_length]
                show AG0 lg _ a2.1
                rw [k2]
                exact keepA chs _ _ (ag.tr hw1)
              · show IMG a2.1 chs
                rw [k2]
                exact keepI chs (fun c hc => (hP.2.2 c hc).1) _ hI
            · rw [e] at h6
              cases h6
              refine Or.inl ⟨rfl, k3.trans g4, ?_, fun i hi => ?_⟩
              rotate_left
              · have h5 : pb (wrp a2.1 1 (fun _ => 0)) 1 i = (fun _ => 0 : Nat → Nat) i := wrp_in hi
                exact h5
              have hz9 : AG0 lg a2.1 (wrp a2.1 1 (fun _ => 0)) := fun p hp i hi => wrp_out hi (by omega)
              have hy9 : AG0 lg (apC a.1 chs) a2.1 := by
                rw [k2]
                exact keepA chs _ _ (ag.tr hw1)
              exact hy9.tr hz9
          · have h6 : (false, a2) = (b, a9) := h7
            cases h6
            refine Or.inr ⟨rfl, k2, k3, Or.inr ⟨j, by omega, ?_, ?_⟩⟩
            · rw [k4]
              exact keepA _ _ _ (ag.tr hw1)
            · rw [k4]
              exact keepI _ (fun c hc => (hP.2.2 c (List.mem_of_mem_take hc)).1) _ hI
    · have h8 : (false, a1) = (b, a9) := h9
      cases h8
      exact Or.inr ⟨rfl, g4, g5, Or.inl ⟨ag, g1 1 (by omega)⟩⟩
