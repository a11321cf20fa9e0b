/-! a MERGE of the reference -/
theorem allL_rc (C : Nat → Nat) (p : Nat) : allL C p = rcL C p := by
  unfold allL recS rcL
  congr 1
  exact List.filter_eq_self.mpr (fun r _ => notAt_none (by omega) r)
theorem rcL_len (C : Nat → Nat) (p : Nat) : (rcL C p).length = pb C p 1 := by
  unfold rcL
  rw [List.length_map, List.length_range]
def MGX (C : Nat → Nat) (pg lg h o kp lf a b e : Nat) : Prop := e = pb C (entN C (idx C h)) 0 ∧ kp = (if mgB C h e then entN C (idx C h) else o) ∧ lf = (if mgB C h e then o else entN C (idx C h)) ∧ a = mgF C h e ∧ b = mgF C h e + 2 ^ (C 0 - e) ∧ (∀ j, j < 2 ^ C 0 → (entN C j = lf ↔ a ≤ j ∧ j < b)) ∧ kp ≠ lf ∧ a < b ∧ b ≤ 2 ^ C 0 ∧ (∃ i, i < 2 ^ C 0 ∧ entN C i = kp) ∧ (1 ≤ e ∧ e ≤ C 0) ∧ (pb C kp 0 = e ∧ pb C lf 0 = e) ∧ bL C kp + bL C lf ≤ 126 ∧ (¬ lg < 1 + dpO a b → RTH C pg lg [(kp, bpg (e - 1) (allL C kp ++ allL C lf))] a b kp ∧ CHG C (mgC C e kp lf a b) pg lg)
theorem mg_x {C : Nat → Nat} {pg lg h o : Nat} (hF : FULL C pg lg) (hh : h < 65536) (hm : mpN C h = some o) : ∃ kp lf a b e, MGX C pg lg h o kp lf a b e := by
  obtain ⟨t, D, S, kp, lf, h1, h2, h3, h4, h5, h6, h7, h8, h9, h10, h11, h12, h13, h14⟩ := mg_facts hF hh hm
  have p0 : 0 < S := by rw [h2]; exact Nat.pow_pos (by decide)
  have e0 := two_mul_blk t S
  have e1 := two_mul_blk1 t S
  refine ⟨kp, lf, (2 * t + 1) * S, (2 * t + 1) * S + S, D, h1, h5, h6, h7.symm, by rw [h7, ← h2], fun j hj => ?_, h14, by omega, h8, ⟨2 * t * S, by omega, h9⟩, ⟨h3, h4⟩, ⟨h11, h12⟩, h13, fun hl => ⟨mg_rth hF h2 h4 h8 h9 h10 h13 hl, mg_chg hF h2 h3 h4 h8 h9 h10 h11 h12 h13 hl⟩⟩
  have := hF.2.2.1 ((2 * t + 1) * S) j (by omega) hj
  rw [h10, h12, ← h2, Nat.mul_div_cancel _ p0] at this
  rw [this, div_blk p0]
/-- a MERGE's records, t of them taken over -/
def MGI (C : Nat → Nat) (kp lf : Nat) (Mn0 : Nat → Nat) (q0 : RQ) (t : Nat) (Mn : Nat → Nat) (q : RQ) : Prop := QB q ∧ rcs q kp (Mn kp) = rcL C kp ++ (rcL C lf).take t ∧ (∀ j, j ≠ kp → Mn j = Mn0 j) ∧ ∀ j r, j ≠ kp → r < 90 → rcB q (90 * j + r) = rcB q0 (90 * j + r)
theorem MGI.new {C : Nat → Nat} {kp lf : Nat} {Bd Mn0 : Nat → Nat} {q0 : RQ} (h : RB C kp Bd Mn0 q0) (hQ : QB q0) : MGI C kp lf Mn0 q0 0 Mn0 q0 := ⟨hQ, by rw [RB_rcs h, List.take_zero, List.append_nil], fun _ _ => rfl, fun _ _ _ _ => rfl⟩
theorem MGI.lk {C : Nat → Nat} {kp lf t : Nat} {Mn0 Mn : Nat → Nat} {q0 q : RQ} (h : MGI C kp lf Mn0 q0 t Mn q) (ht : t ≤ pb C lf 1) : Mn kp = pb C kp 1 + t := by
  have h1 := congrArg List.length h.2.1
  rw [rcs_len, List.length_append, rcL_len, List.length_take, rcL_len] at h1
  omega
theorem MGI.step {C : Nat → Nat} {kp lf t : Nat} {Bd Mn0 Mn : Nat → Nat} {q0 q : RQ} (h : MGI C kp lf Mn0 q0 t Mn q) (hL : RB C lf Bd Mn0 q0) (ht : t < pb C lf 1) (hn : pb C kp 1 + pb C lf 1 ≤ 84) (hne : kp ≠ lf) : MGI C kp lf Mn0 q0 (t + 1) (upN Mn kp (Mn kp + 1)) (cpQ q (90 * lf + t) (90 * kp + Mn kp)) := by
  have hk := h.lk (Nat.le_of_lt ht)
  have hft : 90 * lf + t ≠ 90 * kp + Mn kp := by omega
  have hrec : rcB q (90 * lf + t) = recL C lf (rst C lf t) := by
    rw [h.2.2.2 lf t (fun z => hne z.symm) (by omega)]
    exact hL.2.2 t ht
  refine ⟨QB_cp h.1 _ _, ?_, fun j hj => ?_, fun j r hj hr => ?_⟩
  · rw [upN_at, if_pos rfl, rcs_cpn h.1 hft, h.2.1, hrec, List.append_assoc]
    congr 1
    rw [List.take_succ]
    have : (rcL C lf)[t]? = some (recL C lf (rst C lf t)) := by
      unfold rcL
      rw [List.getElem?_map, List.getElem?_range ht]
      rfl
    rw [this]
    rfl
  · rw [upN_at, if_neg hj]
    exact h.2.2.1 j hj
  · rw [rcB_cp h.1 hft, if_neg (by omega)]
    exact h.2.2.2 j r hj hr
theorem MGI.mn84 {C : Nat → Nat} {kp lf t : Nat} {Mn0 Mn : Nat → Nat} {q0 q : RQ} (h : MGI C kp lf Mn0 q0 t Mn q) (ht : t ≤ pb C lf 1) (hn : pb C kp 1 + pb C lf 1 ≤ 84) (h0 : ∀ j, Mn0 j ≤ 84) : ∀ j, Mn j ≤ 84 := by
  intro j
  have h1 := h.lk ht
  by_cases j1 : j = kp
  · rw [j1]; omega
  · rw [h.2.2.1 j j1]; exact h0 j
section MGM
variable {C : Nat → Nat} {pg lg h o kp lf a b e : Nat} {Dr En En' Cg : Nat → Nat} {Ib : Nat → Bool} {Bd Mn0 Mn : Nat → Nat} {q0 q : RQ}
theorem mg_w (hF : FULL C pg lg) (hX : MGX C pg lg h o kp lf a b e) : (lg + 2 ≤ kp ∧ kp < pg ∧ dirB C (pF (C 0)) kp = false ∧ WB C kp) ∧ (lg + 2 ≤ lf ∧ lf < pg ∧ dirB C (pF (C 0)) lf = false ∧ WB C lf) ∧ kdN C lg kp = 5 ∧ kdN C lg lf = 5 ∧ pb C kp 1 + pb C lf 1 ≤ 42 := by
  obtain ⟨x1, x2, x3, x4, x5, x6, x7, x8, x9, ⟨i, hi, ei⟩, x11, x12, x13, x14⟩ := hX
  have hk := hF.2.1 i hi
  have hla : entN C a = lf := (x6 a (by omega)).mpr ⟨Nat.le_refl _, x8⟩
  have hl := hF.2.1 a (by omega)
  have k5 := hF.kd5 hi
  have l5 := hF.kd5 (i := a) (by omega)
  rw [ei] at hk k5
  rw [hla] at hl l5
  have c1 := hk.2.2.2.1.count
  have c2 := hl.2.2.2.1.count
  exact ⟨⟨hk.1, hk.2.1, hk.2.2.1, hk.2.2.2.1⟩, ⟨hl.1, hl.2.1, hl.2.2.1, hl.2.2.2.1⟩, k5, l5, by omega⟩
theorem mg_tel (hF : FULL C pg lg) (hX : MGX C pg lg h o kp lf a b e) (hl : ¬ lg < 1 + dpO a b) (hR : RM C lg Dr En Ib Bd Mn0 q0) (hI : MGI C kp lf Mn0 q0 (pb C lf 1) Mn q) (hEn : ∀ i, i < 2 ^ C 0 → En' i = if a ≤ i ∧ i < b then kp else entN C i) : TEL (C 0) (pF (C 0)) Dr En' (upN Bd kp (e - 1)) Mn q (ulC (upN Cg 0 kp) Dr 1 a (dpO a b)) (mgC C e kp lf a b) := by
  obtain ⟨w1, w2, w3, w4, w5⟩ := mg_w hF hX
  obtain ⟨x1, x2, x3, x4, x5, x6, x7, x8, x9, -, x11, x12, x13, x14⟩ := hX
  have hr := (x14 hl).1
  have hrk : rcs q kp (Mn kp) = allL C kp ++ allL C lf := by
    rw [hI.2.1, allL_rc, allL_rc, List.take_of_length_le (by rw [rcL_len]; exact Nat.le_refl _)]
  have a1 := (allL_len w1.2.2.2).1
  have a2 := (allL_len w2.2.2.2).1
  refine rt_tel hF hr hR.1 hEn (fun k c hk => ?_) (fun t ht => ?_)
  · match k, hk with
    | 0, hk =>
      cases hk
      refine ⟨?_, fun i hi => ?_, ?_⟩
      · unfold ulC
        rw [if_neg (by omega), upN_at, if_pos rfl]
      · show bpg (upN Bd kp (e - 1) kp) (rcs q kp (Mn kp)) i = _
        rw [hrk, upN_at, if_pos rfl]
      · rw [← rcs_fl, hrk, List.flatten_append, List.length_append]
        omega
    | k + 1, hk => cases hk
  · show ulC (upN Cg 0 kp) Dr 1 a (dpO a b) (1 + t) = _
    unfold ulC
    rw [if_pos (by omega), show 1 + t - 1 = t by omega]
theorem mg_rm (hF : FULL C pg lg) (hX : MGX C pg lg h o kp lf a b e) (hl : ¬ lg < 1 + dpO a b) (hR : RM C lg Dr En Ib Bd Mn0 q0) (hI : MGI C kp lf Mn0 q0 (pb C lf 1) Mn q) (hEn : ∀ i, i < 2 ^ C 0 → En' i = if a ≤ i ∧ i < b then kp else entN C i) (hG : GB Dr En' (upN Bd kp (e - 1)) Mn q) : RM (apC C (mgC C e kp lf a b)) lg Dr En' (upB Ib lf false) (upN Bd kp (e - 1)) Mn q := by
  obtain ⟨w1, w2, w3, w4, w5⟩ := mg_w hF hX
  obtain ⟨x1, x2, x3, x4, x5, x6, x7, x8, x9, ⟨i0, hi0, ei0⟩, x11, x12, x13, x14⟩ := hX
  obtain ⟨hr, hc⟩ := x14 hl
  have hrk : rcs q kp (Mn kp) = allL C kp ++ allL C lf := by
    rw [hI.2.1, allL_rc, allL_rc, List.take_of_length_le (by rw [rcL_len]; exact Nat.le_refl _)]
  have a1 := (allL_len w1.2.2.2).1
  have a2 := (allL_len w2.2.2.2).1
  have hm84 := hR.2.2.2.2.2.2.2.1
  have hlen : (rcs q kp (Mn kp)).flatten.length ≤ 252 := by
    rw [hrk, List.flatten_append, List.length_append]
    omega
  have hvr : ∀ r ∈ rcs q kp (Mn kp), VR r := by
    rw [hrk]
    intro r hr9
    rcases List.mem_append.mp hr9 with z | z
    · exact VR_recS w1.2.2.2 (Nat.le_refl _) r z
    · exact VR_recS w2.2.2.2 (Nat.le_refl _) r z
  have hpg : ∀ t, t < 256 → bpg (e - 1) (allL C kp ++ allL C lf) t = bpg (upN Bd kp (e - 1) kp) (rcs q kp (Mn kp)) t := fun t _ => by rw [hrk, upN_at, if_pos rfl]
  refine rt_rm hF hr hc.2.2.2 hR.1 hEn (fun p9 hp9 => ?_) (fun i e9 hi9 he9 => ?_) hG
  · unfold upB
    by_cases r : p9 = lf
    · rw [if_pos r]
      refine ⟨fun z => (by cases z), ?_⟩
      rintro ⟨i, hi9, e9⟩
      by_cases r2 : a ≤ i ∧ i < b
      · rw [if_pos r2] at e9
        exact absurd (e9.trans r) x7
      · rw [if_neg r2] at e9
        exact absurd ((x6 i hi9).mp (e9.trans r)) r2
    · rw [if_neg r, hR.ib hF hp9]
      constructor
      · rintro ⟨i, hi9, e9⟩
        refine ⟨i, hi9, ?_⟩
        rw [if_neg (fun z => r (e9.symm.trans ((x6 i hi9).mpr z))), e9]
      · rintro ⟨i, hi9, e9⟩
        by_cases r2 : a ≤ i ∧ i < b
        · rw [if_pos r2] at e9
          exact ⟨i0, hi0, ei0.trans e9⟩
        · rw [if_neg r2] at e9
          exact ⟨i, hi9, e9⟩
  · by_cases r3 : e9 = kp
    · subst r3
      exact Or.inl ⟨_, List.mem_cons_self, rfl, hpg, hvr, hlen⟩
    · by_cases r2 : a ≤ i ∧ i < b
      · rw [if_pos r2] at he9
        exact absurd he9 r3
      · rw [if_neg r2] at he9
        refine Or.inr ⟨he9, fun c hc9 => by rw [List.mem_singleton.mp hc9]; exact fun y => r3 y.symm, ?_⟩
        have := hR.rb hF hi9
        rw [← he9] at this
        exact RB_keep this (by rw [upN_at, if_neg r3]) (hI.2.2.1 e9 r3) (hm84 e9) (fun r hr9 => hI.2.2.2 e9 r r3 hr9)
end MGM
/-- what the reference's merge answers -/
def mrF (a : DA) (lg h : Nat) : Int × DA := match mpN a.1 h with
  | none => (-1, a)
  | some o => if (sMrg a lg h o).1 = 2 then (-1, a) else sMrg a lg h o
def bdN (C : Nat → Nat) (h : Nat) : Option Nat := if pb C (entN C (idx C h)) 0 = 0 then none else if pb C (entN C (idx C h ^^^ 2 ^ (C 0 - pb C (entN C (idx C h)) 0))) 0 = pb C (entN C (idx C h)) 0 then some (entN C (idx C h ^^^ 2 ^ (C 0 - pb C (entN C (idx C h)) 0))) else none
theorem bd_mp (C : Nat → Nat) (h : Nat) : mpN C h = match bdN C h with
    | none => none
    | some o => if bL C (entN C (idx C h)) + bL C o ≤ 126 then some o else none := by
  unfold mpN bdN
  by_cases h0 : pb C (entN C (idx C h)) 0 = 0
  · rw [if_pos h0, if_pos h0]
  · rw [if_neg h0, if_neg h0]
    by_cases h1 : pb C (entN C (idx C h ^^^ 2 ^ (C 0 - pb C (entN C (idx C h)) 0))) 0 = pb C (entN C (idx C h)) 0
    · rw [if_pos h1]
      dsimp only
      by_cases h2 : bL C (entN C (idx C h)) + bL C (entN C (idx C h ^^^ 2 ^ (C 0 - pb C (entN C (idx C h)) 0))) ≤ 126
      · rw [if_pos ⟨h1, h2⟩, if_pos h2]
      · rw [if_neg (fun z => h2 z.2), if_neg h2]
    · rw [if_neg h1, if_neg (fun z => h1 z.1)]
theorem mr_no {a : DA} {lg h : Nat} (hm : mpN a.1 h = none) : mrF a lg h = (-1, a) := by
  unfold mrF
  rw [hm]
theorem mr_2 {a : DA} {pg lg h o kp lf x y e : Nat} (hm : mpN a.1 h = some o) (hX : MGX a.1 pg lg h o kp lf x y e) (hl : lg < 1 + dpO x y) : mrF a lg h = (-1, a) := by
  obtain ⟨x1, x2, x3, x4, x5, -⟩ := hX
  rw [x4, x5, x1] at hl
  unfold mrF
  rw [hm]
  dsimp only
  have : sMrg a lg h o = (2, a) := by
    unfold sMrg
    exact if_pos hl
  rw [this, if_pos rfl]
theorem mr_s {a a9 : DA} {s9 : Int} {pg lg h o kp lf x y e : Nat} (hm : mpN a.1 h = some o) (hX : MGX a.1 pg lg h o kp lf x y e) (hl : ¬ lg < 1 + dpO x y) (hs : stC (sChg a (mgC a.1 e kp lf x y)) = (s9, a9)) : mrF a lg h = (s9, a9) := by
  obtain ⟨x1, x2, x3, x4, x5, -⟩ := hX
  subst x1
  subst x2
  subst x3
  subst x4
  subst x5
  unfold mrF
  rw [hm]
  dsimp only
  have : sMrg a lg h o = (s9, a9) := by
    unfold sMrg
    rw [if_neg hl]
    exact hs
  rw [this]
  have h4 := stC_in (sChg a (mgC a.1 (pb a.1 (entN a.1 (idx a.1 h)) 0) (if mgB a.1 h (pb a.1 (entN a.1 (idx a.1 h)) 0) then entN a.1 (idx a.1 h) else o) (if mgB a.1 h (pb a.1 (entN a.1 (idx a.1 h)) 0) then o else entN a.1 (idx a.1 h)) (mgF a.1 h (pb a.1 (entN a.1 (idx a.1 h)) 0)) (mgF a.1 h (pb a.1 (entN a.1 (idx a.1 h)) 0) + 2 ^ (a.1 0 - pb a.1 (entN a.1 (idx a.1 h)) 0))))
  rw [hs] at h4
  rw [if_neg (by show ¬ s9 = 2; have : s9 = 0 ∨ s9 = 4 := h4; omega)]
