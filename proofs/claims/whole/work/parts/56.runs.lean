/-! what the steps lead to, and how many there can be -/
def KPT (C : Nat → Nat) (wt al : Int) (pg lg : Nat) (s9 : Int) (a9 : DA) : Prop := (s9 = 4 ∧ DWN a9 pg lg) ∨ ((s9 = 1 ∨ s9 = 2 ∨ s9 = -1) ∧ a9 = (C, wt, al, 0))
theorem AG0.bk {lg pg : Nat} {C C' : Nat → Nat} (hF : FULL C pg lg) (h : AG0 lg C C') {i : Nat} (hi : i < 2 ^ C 0) : entN C' i = entN C i ∧ pb C' (entN C i) 0 = pb C (entN C i) 0 := ⟨(h.ha hF.1.1).ent hF.1.1.2.2.2.1 hi, h _ (Or.inr (hF.2.1 i hi).1) 0 (by decide)⟩
section RUN
variable {C : Nat → Nat} {wt al : Int} {pg lg h : Nat} {s9 : Int} {a9 : DA}
theorem sRes_run (hF : FULL C pg lg) (hj : pb C 1 0 = 0) {q : Nat} (hq : q = C 0 + 1 ∨ (q + 1 = C 0 ∧ hbD C pg lg (C 0) = false)) (e : sRes (C, wt, al, 0) pg lg q = (s9, a9)) : (s9 = 0 ∧ UPS a9 pg lg ∧ RZH C pg lg q ∧ AG0 lg (apC C (rzC C pg lg q)) a9.1) ∨ KPT C wt al pg lg s9 a9 := by
  unfold sRes at e
  by_cases h1 : cntK C lg 0 pg + pF (C 0) < pF q
  · have e' : ((1 : Int), ((C, wt, al, 0) : DA)) = (s9, a9) := (if_pos h1).symm.trans e
    cases e'
    exact Or.inr (Or.inr ⟨Or.inl rfl, rfl⟩)
  · rw [if_neg (show ¬ cntK (C, wt, al, (0 : Int)).1 lg 0 pg + pF ((C, wt, al, (0 : Int)).1 0) < pF q from h1)] at e
    by_cases h2 : lg < pF q + 1
    · rw [if_pos h2] at e
      cases e
      exact Or.inr (Or.inr ⟨Or.inr (Or.inl rfl), rfl⟩)
    · rw [if_neg h2] at e
      have hz : RZH C pg lg q := ⟨hq, by omega, by omega⟩
      cases e1 : sChg (C, wt, al, 0) (rzC C pg lg q) with
      | mk b a1 =>
        have e' : (match sChg (C, wt, al, 0) (rzC C pg lg q) with | (true, a') => ((0 : Int), a') | (false, a') => (4, a')) = (s9, a9) := e
        rw [e1] at e'
        rcases (rz_chg hF hz).run hF hj e1 with ⟨r1, r2, r3⟩ | ⟨r1, r2⟩
        · subst r1
          cases e'
          exact Or.inl ⟨rfl, r2, hz, r3⟩
        · subst r1
          cases e'
          exact Or.inr (Or.inl ⟨rfl, r2⟩)
theorem sSpl_run (hF : FULL C pg lg) (hj : pb C 1 0 = 0) (hh : h < 65536) (hD : pb C (entN C (idx C h)) 0 ≠ C 0) (e : sSpl (C, wt, al, 0) pg lg (entN C (idx C h)) h = (s9, a9)) : (s9 = 0 ∧ UPS a9 pg lg ∧ a9.1 0 = C 0 ∧ pb a9.1 (entN a9.1 (idx a9.1 h)) 0 = pb C (entN C (idx C h)) 0 + 1) ∨ KPT C wt al pg lg s9 a9 := by
  have hx := idx_lt (C := C) hh hF.1.1.2.2.2.1
  unfold sSpl at e
  cases e0 : frN C pg lg 0 with
  | none =>
    rw [show frN (C, wt, al, (0 : Int)).1 pg lg 0 = none from e0] at e
    cases e
    exact Or.inr (Or.inr ⟨Or.inl rfl, rfl⟩)
  | some x =>
    rw [show frN (C, wt, al, (0 : Int)).1 pg lg 0 = some x from e0] at e
    by_cases hl : lg < 2 + dpO (spF C h (pb C (entN C (idx C h)) 0)) (spB C h (pb C (entN C (idx C h)) 0))
    · have e' : ((2 : Int), ((C, wt, al, 0) : DA)) = (s9, a9) := (if_pos hl).symm.trans e
      cases e'
      exact Or.inr (Or.inr ⟨Or.inr (Or.inl rfl), rfl⟩)
    · have e' : (match sChg (C, wt, al, 0) (spC C (entN C (idx C h)) h x) with | (true, a') => ((0 : Int), a') | (false, a') => (4, a')) = (s9, a9) := (if_neg hl).symm.trans e
      have hc := sp_chg hF hh hD e0 hl
      have hr := sp_rth hF hh hD e0 hl
      cases e1 : sChg (C, wt, al, 0) (spC C (entN C (idx C h)) h x) with
      | mk b a1 =>
        rw [e1] at e'
        rcases hc.run hF hj e1 with ⟨r1, r2, r3⟩ | ⟨r1, r2⟩
        · subst r1
          cases e'
          have z0 : apC C (spC C (entN C (idx C h)) h x) 0 = C 0 := rt_h0 hF hr
          have z1 : a9.1 0 = C 0 := by rw [r3.hd (by decide)]; exact z0
          have z2 : idx a9.1 h = idx C h := by unfold idx; rw [z1]
          have z3 := r3.bk hc.2.2.2 (i := idx C h) (by rw [z0]; exact hx)
          have z4 : entN (apC C (spC C (entN C (idx C h)) h x)) (idx C h) = if spF C h (pb C (entN C (idx C h)) 0) ≤ idx C h ∧ idx C h < spB C h (pb C (entN C (idx C h)) 0) then x else entN C (idx C h) := rt_end hF hr hx
          refine Or.inl ⟨rfl, r2, z1, ?_⟩
          rw [z2, z3.1, z3.2, z4]
          split
          · exact rt_pre hF hr (c := (x, bpg (pb C (entN C (idx C h)) 0 + 1) (halfL C (entN C (idx C h)) (pb C (entN C (idx C h)) 0) 1))) (List.mem_cons_of_mem _ List.mem_cons_self) (i := 0) (by decide)
          · exact rt_pre hF hr (c := (entN C (idx C h), bpg (pb C (entN C (idx C h)) 0 + 1) (halfL C (entN C (idx C h)) (pb C (entN C (idx C h)) 0) 0))) List.mem_cons_self (i := 0) (by decide)
        · subst r1
          cases e'
          exact Or.inr (Or.inl ⟨rfl, r2⟩)
theorem st_run (hF : FULL C pg lg) (hj : pb C 1 0 = 0) (hh : h < 65536) (e : sSt (C, wt, al, 0) pg lg h = (s9, a9)) : (s9 = 0 ∧ UPS a9 pg lg ∧ a9.1 0 + pb a9.1 (entN a9.1 (idx a9.1 h)) 0 = C 0 + pb C (entN C (idx C h)) 0 + 1) ∨ KPT C wt al pg lg s9 a9 := by
  have hx := idx_lt (C := C) hh hF.1.1.2.2.2.1
  unfold sSt at e
  by_cases hD : pb C (entN C (idx C h)) 0 = C 0
  · rw [if_pos (show pb (C, wt, al, (0 : Int)).1 (entN (C, wt, al, (0 : Int)).1 (idx (C, wt, al, (0 : Int)).1 h)) 0 = (C, wt, al, (0 : Int)).1 0 from hD)] at e
    rcases sRes_run hF hj (Or.inl rfl) e with ⟨r1, r2, r3, r4⟩ | r
    · have z0 : apC C (rzC C pg lg (C 0 + 1)) 0 = C 0 + 1 := by rw [rz_hd hF r3 (by decide)]; rfl
      have z1 : a9.1 0 = C 0 + 1 := by rw [r4.hd (by decide)]; exact z0
      have hx2 : h / 2 ^ (16 - (C 0 + 1)) < 2 ^ (C 0 + 1) := by
        have := idx_lt (C := a9.1) hh (by rw [z1]; have := hF.1.2.2.2; omega)
        unfold idx at this
        rw [z1] at this
        exact this
      have z2 : idx a9.1 h = h / 2 ^ (16 - (C 0 + 1)) := by unfold idx; rw [z1]
      have z3 := r4.bk (rz_full hF r3) (i := h / 2 ^ (16 - (C 0 + 1))) (by rw [z0]; exact hx2)
      have z4 : entN (apC C (rzC C pg lg (C 0 + 1))) (h / 2 ^ (16 - (C 0 + 1))) = entN C (idx C h) := by
        rw [rz_en hF r3 hx2]
        unfold eN
        rw [if_pos (by omega)]
        congr 1
        unfold idx
        have h14 := hF.1.2.2.2
        rw [Nat.div_div_eq_div_mul, ← Nat.pow_succ, show (16 - (C 0 + 1)).succ = 16 - C 0 by omega]
      have z5 := rz_ent hF r3 (rzC C pg lg (C 0 + 1)).length hx 0 (by decide)
      rw [List.take_length] at z5
      refine Or.inl ⟨r1, r2, ?_⟩
      rw [z2, z3.1, z3.2, z4, z5, z1]
      omega
    · exact Or.inr r
  · rw [if_neg (show ¬ pb (C, wt, al, (0 : Int)).1 (entN (C, wt, al, (0 : Int)).1 (idx (C, wt, al, (0 : Int)).1 h)) 0 = (C, wt, al, (0 : Int)).1 0 from hD)] at e
    rcases sSpl_run hF hj hh hD e with ⟨r1, r2, r3, r4⟩ | r
    · exact Or.inl ⟨r1, r2, by rw [r3, r4]; omega⟩
    · exact Or.inr r
theorem mr_run (hF : FULL C pg lg) (hj : pb C 1 0 = 0) (hh : h < 65536) (e : mrF (C, wt, al, 0) lg h = (s9, a9)) : (s9 = 0 ∧ UPS a9 pg lg ∧ pb a9.1 (entN a9.1 (idx a9.1 h)) 0 + 1 = pb C (entN C (idx C h)) 0) ∨ KPT C wt al pg lg s9 a9 := by
  have hx := idx_lt (C := C) hh hF.1.1.2.2.2.1
  cases e0 : mpN C h with
  | none =>
    rw [mr_no (a := (C, wt, al, 0)) e0] at e
    cases e
    exact Or.inr (Or.inr ⟨Or.inr (Or.inr rfl), rfl⟩)
  | some o =>
    obtain ⟨kp, lf, a, b, d, hX⟩ := mg_x hF hh e0
    by_cases hl : lg < 1 + dpO a b
    · rw [mr_2 (a := (C, wt, al, 0)) e0 hX hl] at e
      cases e
      exact Or.inr (Or.inr ⟨Or.inr (Or.inr rfl), rfl⟩)
    · cases e1 : sChg (C, wt, al, 0) (mgC C d kp lf a b) with
      | mk bb a1 =>
        have e2 : stC (sChg (C, wt, al, 0) (mgC C d kp lf a b)) = stC (bb, a1) := by rw [e1]
        have e3 := mr_s (a := (C, wt, al, 0)) e0 hX hl (s9 := (stC (bb, a1)).1) (a9 := (stC (bb, a1)).2) e2
        rw [e3] at e
        obtain ⟨x1, x2, x3, x4, x5, x6, x7, x8, x9, -, x11, x12, x13, x14⟩ := id hX
        obtain ⟨hr, hc⟩ := x14 hl
        rcases hc.run hF hj e1 with ⟨r1, r2, r3⟩ | ⟨r1, r2⟩
        · subst r1
          cases e
          have z0 : apC C (mgC C d kp lf a b) 0 = C 0 := rt_h0 hF hr
          have z1 : a1.1 0 = C 0 := by rw [r3.hd (by decide)]; exact z0
          have z2 : idx a1.1 h = idx C h := by unfold idx; rw [z1]
          have z3 := r3.bk hc.2.2.2 (i := idx C h) (by rw [z0]; exact hx)
          have z4 : entN (apC C (mgC C d kp lf a b)) (idx C h) = if a ≤ idx C h ∧ idx C h < b then kp else entN C (idx C h) := rt_end hF hr hx
          have z5 : entN (apC C (mgC C d kp lf a b)) (idx C h) = kp := by
            rw [z4]
            by_cases r : a ≤ idx C h ∧ idx C h < b
            · rw [if_pos r]
            · rw [if_neg r]
              have : entN C (idx C h) ≠ lf := fun z => r ((x6 _ hx).mp z)
              rw [x2]
              cases hB : mgB C h d with
              | true => rw [if_pos rfl]
              | false =>
                rw [hB, if_neg (by decide)] at x3
                exact absurd x3.symm this
          have z6 := rt_pre hF hr (c := (kp, bpg (d - 1) (allL C kp ++ allL C lf))) List.mem_cons_self (i := 0) (by decide)
          refine Or.inl ⟨rfl, r2, ?_⟩
          show pb a1.1 (entN a1.1 (idx a1.1 h)) 0 + 1 = _
          rw [z2, z3.1, z3.2, z5, ← x1]
          have z7 : pb (apC C (mgC C d kp lf a b)) kp 0 = d - 1 := z6
          rw [z7]
          omega
        · subst r1
          cases e
          exact Or.inr (Or.inl ⟨rfl, r2⟩)
theorem hv_run (hF : FULL C pg lg) (hj : pb C 1 0 = 0) (e : hvF (C, wt, al, 0) pg lg = (s9, a9)) : (s9 = 0 ∧ UPS a9 pg lg ∧ a9.1 0 + 1 = C 0) ∨ KPT C wt al pg lg s9 a9 := by
  unfold hvF at e
  by_cases h1 : C 0 = 0 ∨ hbD C pg lg (C 0) = true
  · have e' : ((-1 : Int), ((C, wt, al, 0) : DA)) = (s9, a9) := (if_pos h1).symm.trans e
    cases e'
    exact Or.inr (Or.inr ⟨Or.inr (Or.inr rfl), rfl⟩)
  · have e1 := (if_neg h1).symm.trans e
    have e0 : (if lg < pF (C 0 - 1) + 1 then ((-1 : Int), ((C, wt, al, 0) : DA)) else stC (sChg (C, wt, al, 0) (rzC C pg lg (C 0 - 1)))) = (s9, a9) := e1
    clear e1
    have hb : hbD C pg lg (C 0) = false := by
      cases hb : hbD C pg lg (C 0) with
      | false => rfl
      | true => exact absurd (Or.inr hb) h1
    have hz0 : C 0 ≠ 0 := fun z => h1 (Or.inl z)
    by_cases h2 : lg < pF (C 0 - 1) + 1
    · rw [if_pos h2] at e0
      cases e0
      exact Or.inr (Or.inr ⟨Or.inr (Or.inr rfl), rfl⟩)
    · rw [if_neg h2] at e0
      have hpl : pF (C 0 - 1) ≤ pF (C 0) := by
        have := pF_s (C 0 - 1)
        rw [show C 0 - 1 + 1 = C 0 by omega] at this
        exact this
      have hz : RZH C pg lg (C 0 - 1) := ⟨Or.inr ⟨by omega, hb⟩, by omega, by omega⟩
      cases e1 : sChg (C, wt, al, 0) (rzC C pg lg (C 0 - 1)) with
      | mk b a1 =>
        rw [e1] at e0
        rcases (rz_chg hF hz).run hF hj e1 with ⟨r1, r2, r3⟩ | ⟨r1, r2⟩
        · subst r1
          cases e0
          refine Or.inl ⟨rfl, r2, ?_⟩
          rw [r3.hd (by decide), rz_hd hF hz (by decide)]
          show C 0 - 1 + 1 = C 0
          omega
        · subst r1
          cases e0
          exact Or.inr (Or.inl ⟨rfl, r2⟩)
end RUN
/-- the reference's loops and the class's -/
theorem ma_0 {a a' : DA} {lg h n : Nat} (e : mrF a lg h = (0, a')) : sMA lg h (n + 1) a = sMA lg h n a' := by
  unfold mrF at e
  show (match mpN a.1 h with | none => ((0 : Int), a) | some o => if (sMrg a lg h o).1 = 0 then sMA lg h n (sMrg a lg h o).2 else sMrg a lg h o) = _
  cases e0 : mpN a.1 h with
  | none => rw [e0] at e; cases e
  | some o =>
    rw [e0] at e
    dsimp only at e ⊢
    by_cases h2 : (sMrg a lg h o).1 = 2
    · rw [if_pos h2] at e; cases e
    · rw [if_neg h2] at e
      rw [e, if_pos rfl]
theorem ma_4 {a a' : DA} {lg h n : Nat} (e : mrF a lg h = (4, a')) : sMA lg h (n + 1) a = (4, a') := by
  unfold mrF at e
  show (match mpN a.1 h with | none => ((0 : Int), a) | some o => if (sMrg a lg h o).1 = 0 then sMA lg h n (sMrg a lg h o).2 else sMrg a lg h o) = _
  cases e0 : mpN a.1 h with
  | none => rw [e0] at e; cases e
  | some o =>
    rw [e0] at e
    dsimp only at e ⊢
    by_cases h2 : (sMrg a lg h o).1 = 2
    · rw [if_pos h2] at e; cases e
    · rw [if_neg h2] at e
      rw [e, if_neg (show ¬ (4 : Int) = 0 by decide)]
theorem ma_n {a a' : DA} {lg h n : Nat} (e : mrF a lg h = (-1, a')) : (sMA lg h (n + 1) a).2 = a' ∧ (sMA lg h (n + 1) a).1 ≠ 4 := by
  unfold mrF at e
  show (match mpN a.1 h with | none => ((0 : Int), a) | some o => if (sMrg a lg h o).1 = 0 then sMA lg h n (sMrg a lg h o).2 else sMrg a lg h o).2 = _ ∧ (match mpN a.1 h with | none => ((0 : Int), a) | some o => if (sMrg a lg h o).1 = 0 then sMA lg h n (sMrg a lg h o).2 else sMrg a lg h o).1 ≠ 4
  cases e0 : mpN a.1 h with
  | none => rw [e0] at e; cases e; exact ⟨rfl, show (0 : Int) ≠ 4 by decide⟩
  | some o =>
    rw [e0] at e
    dsimp only at e ⊢
    by_cases h2 : (sMrg a lg h o).1 = 2
    · rw [if_pos h2] at e
      cases e
      have h3 : sMrg a lg h o = (2, a) := by
        unfold sMrg at h2 ⊢
        split
        · rfl
        · rename_i hl
          rw [if_neg hl] at h2
          have := stC_in (sChg a (mgC a.1 (pb a.1 (entN a.1 (idx a.1 h)) 0) (if mgB a.1 h (pb a.1 (entN a.1 (idx a.1 h)) 0) then entN a.1 (idx a.1 h) else o) (if mgB a.1 h (pb a.1 (entN a.1 (idx a.1 h)) 0) then o else entN a.1 (idx a.1 h)) (mgF a.1 h (pb a.1 (entN a.1 (idx a.1 h)) 0)) (mgF a.1 h (pb a.1 (entN a.1 (idx a.1 h)) 0) + 2 ^ (a.1 0 - pb a.1 (entN a.1 (idx a.1 h)) 0))))
          rw [h2] at this
          omega
      rw [h3, if_neg (show ¬ (2 : Int) = 0 by decide)]
      exact ⟨rfl, show (2 : Int) ≠ 4 by decide⟩
    · rw [if_neg h2] at e
      have : sMrg a lg h o = (-1, a') := e
      exfalso
      unfold sMrg at this
      split at this
      · cases this
      · have h4 := stC_in (sChg a (mgC a.1 (pb a.1 (entN a.1 (idx a.1 h)) 0) (if mgB a.1 h (pb a.1 (entN a.1 (idx a.1 h)) 0) then entN a.1 (idx a.1 h) else o) (if mgB a.1 h (pb a.1 (entN a.1 (idx a.1 h)) 0) then o else entN a.1 (idx a.1 h)) (mgF a.1 h (pb a.1 (entN a.1 (idx a.1 h)) 0)) (mgF a.1 h (pb a.1 (entN a.1 (idx a.1 h)) 0) + 2 ^ (a.1 0 - pb a.1 (entN a.1 (idx a.1 h)) 0))))
        rw [this] at h4
        have h5 : (-1 : Int) = 0 ∨ (-1 : Int) = 4 := h4
        omega
theorem hv_res {a : DA} {pg lg : Nat} (h1 : ¬ (a.1 0 = 0 ∨ hbD a.1 pg lg (a.1 0) = true)) : sRes a pg lg (a.1 0 - 1) = if lg < pF (a.1 0 - 1) + 1 then (2, a) else stC (sChg a (rzC a.1 pg lg (a.1 0 - 1))) := by
  have hpl : pF (a.1 0 - 1) ≤ pF (a.1 0) := by
    have hz0 : a.1 0 ≠ 0 := fun z => h1 (Or.inl z)
    have := pF_s (a.1 0 - 1)
    rw [show a.1 0 - 1 + 1 = a.1 0 by omega] at this
    exact this
  unfold sRes
  rw [if_neg (by omega)]
  rfl
theorem ha_s {a : DA} {pg lg n : Nat} : (∀ a', hvF a pg lg = (0, a') → sHA pg lg (n + 1) a = sHA pg lg n a') ∧ (∀ a', hvF a pg lg = (4, a') → sHA pg lg (n + 1) a = (4, a')) ∧ (∀ a', hvF a pg lg = (-1, a') → sHA pg lg (n + 1) a = (0, a')) := by
  have e0 : sHA pg lg (n + 1) a = if a.1 0 = 0 ∨ hbD a.1 pg lg (a.1 0) = true then (0, a) else if (sRes a pg lg (a.1 0 - 1)).1 = 0 then sHA pg lg n (sRes a pg lg (a.1 0 - 1)).2 else (if (sRes a pg lg (a.1 0 - 1)).1 = 4 then 4 else 0, (sRes a pg lg (a.1 0 - 1)).2) := rfl
  unfold hvF
  by_cases h1 : a.1 0 = 0 ∨ hbD a.1 pg lg (a.1 0) = true
  · rw [e0, if_pos h1, if_pos h1]
    exact ⟨fun a' e => (by cases e), fun a' e => (by cases e), fun a' e => (by cases e; rfl)⟩
  · rw [e0, if_neg h1, if_neg h1, hv_res h1]
    by_cases h2 : lg < pF (a.1 0 - 1) + 1
    · rw [if_pos h2, if_pos h2, if_neg (show ¬ (2 : Int) = 0 by decide), if_neg (show ¬ (2 : Int) = 4 by decide)]
      exact ⟨fun a' e => (by cases e), fun a' e => (by cases e), fun a' e => (by cases e; rfl)⟩
    · rw [if_neg h2, if_neg h2]
      refine ⟨fun a' e => (by rw [e, if_pos (show (0 : Int) = 0 from rfl)]), fun a' e => (by rw [e, if_neg (show ¬ (4 : Int) = 0 by decide), if_pos (show (4 : Int) = 4 from rfl)]), fun a' e => ?_⟩
      have h4 := stC_in (sChg a (rzC a.1 pg lg (a.1 0 - 1)))
      rw [e] at h4
      have h5 : (-1 : Int) = 0 ∨ (-1 : Int) = 4 := h4
      omega
