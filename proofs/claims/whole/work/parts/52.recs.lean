/-! records of the reference as lists -/
theorem rcs_at {q : RQ} {p n r : Nat} (h : r < n) : (rcs q p n)[r]? = some (rcB q (90 * p + r)) := by
  unfold rcs
  rw [List.getElem?_map, List.getElem?_range h]
  rfl
theorem rcs_ext {q q' : RQ} {p n : Nat} (h : ∀ r, r < n → rcB q' (90 * p + r) = rcB q (90 * p + r)) : rcs q' p n = rcs q p n := by
  unfold rcs
  exact List.map_congr_left (fun r hr => h r (List.mem_range.mp hr))
theorem rcs_cpo {q : RQ} (hQ : QB q) {f t p n : Nat} (hft : f ≠ t) (ho : t < 90 * p ∨ 90 * p + n ≤ t) : rcs (cpQ q f t) p n = rcs q p n := rcs_ext (fun r hr => by rw [rcB_cp hQ hft, if_neg (by omega)])
theorem rcs_cpn {q : RQ} (hQ : QB q) {f p n : Nat} (hft : f ≠ 90 * p + n) : rcs (cpQ q f (90 * p + n)) p (n + 1) = rcs q p n ++ [rcB q f] := by
  rw [rcs_s, rcs_cpo hQ hft (by omega), rcB_cp hQ hft, if_pos rfl]
theorem rcs_drop {q : RQ} (hQ : QB q) {p n a : Nat} (ha : a < n) : rcs (dpQ q (90 * p + a) (n - 1 - a)) p (n - 1) = (rcs q p n).eraseIdx a := by
  apply List.ext_getElem?
  intro r
  rw [List.getElem?_eraseIdx]
  by_cases hr : r < n - 1
  · rw [rcs_at hr, rcB_dp hQ]
    by_cases hra : r < a
    · rw [if_pos hra, if_neg (by omega), rcs_at (by omega)]
    · rw [if_neg hra, if_pos (by omega), rcs_at (by omega)]
      rfl
  · rw [List.getElem?_eq_none (by rw [rcs_len]; omega)]
    by_cases hra : r < a
    · omega
    · rw [if_neg hra, List.getElem?_eq_none (by rw [rcs_len]; omega)]
theorem rcs_dpo {q : RQ} (hQ : QB q) {b m p n : Nat} (ho : 90 * p + n ≤ b ∨ b + m ≤ 90 * p) : rcs (dpQ q b m) p n = rcs q p n := rcs_ext (fun r hr => by rw [rcB_dp hQ, if_neg (by omega)])
theorem hx_rh {q : RQ} {C : Nat → Nat} {p r y : Nat} (h : rcB q y = recL C p (rst C p r)) : hxM q y = rh C p r := by
  obtain ⟨h1, -, h3, -⟩ := rec_eq h
  unfold hxM rh
  rw [h1]
  refine hsh_congr (fun j hj => ?_)
  rw [Nat.zero_add, h3 j hj]
  exact congrArg C (by omega)
/-- the records of page p from the t-th on -/
def rsL (C : Nat → Nat) (p t : Nat) : List (List Nat) := (List.range (pb C p 1 - t)).map (fun k => recL C p (rst C p (t + k)))
theorem rsL_s {C : Nat → Nat} {p t : Nat} (h : t < pb C p 1) : rsL C p t = recL C p (rst C p t) :: rsL C p (t + 1) := by
  unfold rsL
  rw [show pb C p 1 - t = (pb C p 1 - (t + 1)) + 1 by omega, List.range_succ_eq_map, List.map_cons, List.map_map]
  congr 1
  refine List.map_congr_left (fun k hk => ?_)
  show recL C p (rst C p (t + (k + 1))) = _
  rw [show t + (k + 1) = t + 1 + k by omega]
theorem rsL_n {C : Nat → Nat} {p t : Nat} (h : pb C p 1 ≤ t) : rsL C p t = [] := by
  unfold rsL
  rw [show pb C p 1 - t = 0 by omega]
  rfl
theorem rsL_0 (C : Nat → Nat) (p : Nat) : rsL C p 0 = rcL C p := by
  unfold rsL rcL
  rw [Nat.sub_zero]
  exact List.map_congr_left (fun k _ => by rw [Nat.zero_add])
theorem RB_keep {C : Nat → Nat} {e : Nat} {Bd Mn Bd' Mn' : Nat → Nat} {q q' : RQ} (h : RB C e Bd Mn q) (h1 : Bd' e = Bd e) (h2 : Mn' e = Mn e) (hm : Mn e ≤ 84) (h3 : ∀ r, r < 90 → rcB q' (90 * e + r) = rcB q (90 * e + r)) : RB C e Bd' Mn' q' := by
  refine ⟨h1.trans h.1, h2.trans h.2.1, fun r hr => ?_⟩
  have := h.2.1
  rw [h3 r (by omega)]
  exact h.2.2 r hr
/-- a SPLIT's records, t of them looked at -/
def SPI (C : Nat → Nat) (p e x : Nat) (Mn0 : Nat → Nat) (q0 : RQ) (t : Nat) (Mn : Nat → Nat) (q : RQ) : Prop := QB q ∧ rcs q p (Mn p) = recS C p (fun r => bitB (rh C p r) e == 0) t ++ rsL C p t ∧ rcs q x (Mn x) = recS C p (fun r => bitB (rh C p r) e == 1) t ∧ (∀ j, j ≠ p → j ≠ x → Mn j = Mn0 j) ∧ ∀ j r, j ≠ p → j ≠ x → r < 90 → rcB q (90 * j + r) = rcB q0 (90 * j + r)
theorem SPI.lp {C : Nat → Nat} {p e x t : Nat} {Mn0 Mn : Nat → Nat} {q0 q : RQ} (h : SPI C p e x Mn0 q0 t Mn q) (ht : t ≤ pb C p 1) : Mn p = (recS C p (fun r => bitB (rh C p r) e == 0) t).length + (pb C p 1 - t) := by
  have h1 := congrArg List.length h.2.1
  rw [rcs_len, List.length_append] at h1
  have h2 : (rsL C p t).length = pb C p 1 - t := by unfold rsL; rw [List.length_map, List.length_range]
  omega
theorem SPI.lx {C : Nat → Nat} {p e x t : Nat} {Mn0 Mn : Nat → Nat} {q0 q : RQ} (h : SPI C p e x Mn0 q0 t Mn q) : Mn x = (recS C p (fun r => bitB (rh C p r) e == 1) t).length := by
  have h1 := congrArg List.length h.2.2.1
  rw [rcs_len] at h1
  exact h1
theorem SPI.rec {C : Nat → Nat} {p e x t : Nat} {Mn0 Mn : Nat → Nat} {q0 q : RQ} (h : SPI C p e x Mn0 q0 t Mn q) (ht : t < pb C p 1) : rcB q (90 * p + (recS C p (fun r => bitB (rh C p r) e == 0) t).length) = recL C p (rst C p t) := by
  have hl := h.lp (Nat.le_of_lt ht)
  have h1 := rcs_at (q := q) (p := p) (n := Mn p) (r := (recS C p (fun r => bitB (rh C p r) e == 0) t).length) (by omega)
  rw [h.2.1, List.getElem?_append_right (Nat.le_refl _), Nat.sub_self, rsL_s ht] at h1
  injection h1 with h1
  exact h1.symm
theorem SPI.stay {C : Nat → Nat} {p e x t : Nat} {Mn0 Mn : Nat → Nat} {q0 q : RQ} (h : SPI C p e x Mn0 q0 t Mn q) (ht : t < pb C p 1) (hb : bitB (rh C p t) e ≠ 1) : SPI C p e x Mn0 q0 (t + 1) Mn q := by
  have h2 : bitB (rh C p t) e = 0 := by
    have : bitB (rh C p t) e < 2 := Nat.mod_lt _ (by decide)
    omega
  refine ⟨h.1, ?_, ?_, h.2.2.2⟩
  · rw [h.2.1, rsL_s ht, recS_t (sel := fun r => bitB (rh C p r) e == 0) (beq_iff_eq.mpr h2), List.append_assoc]
    rfl
  · rw [h.2.2.1, recS_f (sel := fun r => bitB (rh C p r) e == 1) (beq_false_of_ne hb)]
theorem erase_mid {α : Type} (l m : List α) (x : α) : (l ++ x :: m).eraseIdx l.length = l ++ m := by
  induction l with
  | nil => rfl
  | cons a l ih =>
    show a :: (l ++ x :: m).eraseIdx l.length = _
    rw [ih]
    rfl
theorem SPI.move {C : Nat → Nat} {p e x t : Nat} {Mn0 Mn : Nat → Nat} {q0 q : RQ} (h : SPI C p e x Mn0 q0 t Mn q) (ht : t < pb C p 1) (hb : bitB (rh C p t) e = 1) (hn : pb C p 1 ≤ 84) (hpx : p ≠ x) : SPI C p e x Mn0 q0 (t + 1) (upN (upN Mn x (Mn x + 1)) p (upN Mn x (Mn x + 1) p - 1)) (dpQ (cpQ q (90 * p + (recS C p (fun r => bitB (rh C p r) e == 0) t).length) (90 * x + Mn x)) (90 * p + (recS C p (fun r => bitB (rh C p r) e == 0) t).length) (upN Mn x (Mn x + 1) p - 1 - (recS C p (fun r => bitB (rh C p r) e == 0) t).length)) := by
  have hrec := h.rec ht
  have hlp := h.lp (Nat.le_of_lt ht)
  have hlx := h.lx
  have hl0 := recS_len C p (fun r => bitB (rh C p r) e == 0) t
  have hl1 := recS_len C p (fun r => bitB (rh C p r) e == 1) t
  have e1 : upN Mn x (Mn x + 1) p = Mn p := by rw [upN_at, if_neg hpx]
  rw [e1]
  generalize hR : (recS C p (fun r => bitB (rh C p r) e == 0) t).length = R at hrec hlp hl0 ⊢
  have hne : 90 * p + R ≠ 90 * x + Mn x := by omega
  have hQ' := QB_cp h.1 (90 * p + R) (90 * x + Mn x)
  refine ⟨QB_dp hQ' _ _, ?_, ?_, fun j j1 j2 => ?_, fun j r j1 j2 hr => ?_⟩
  · rw [upN_at, if_pos rfl, rcs_drop hQ' (by omega), rcs_cpo h.1 hne (by omega), h.2.1, rsL_s ht, ← hR, erase_mid, recS_f (sel := fun r => bitB (rh C p r) e == 0) (beq_false_of_ne (by omega))]
  · have e2 : upN (upN Mn x (Mn x + 1)) p (Mn p - 1) x = Mn x + 1 := by rw [upN_at, if_neg (fun z => hpx z.symm), upN_at, if_pos rfl]
    rw [e2, rcs_dpo hQ' (by omega), rcs_cpn h.1 hne, h.2.2.1, hrec, recS_t (sel := fun r => bitB (rh C p r) e == 1) (beq_iff_eq.mpr hb)]
  · rw [upN_at, if_neg j1, upN_at, if_neg j2]
    exact h.2.2.2.1 j j1 j2
  · rw [rcB_dp hQ', if_neg (by omega), rcB_cp h.1 hne, if_neg (by omega)]
    exact h.2.2.2.2 j r j1 j2 hr
theorem SPI.mn84 {C : Nat → Nat} {p e x t : Nat} {Mn0 Mn : Nat → Nat} {q0 q : RQ} (h : SPI C p e x Mn0 q0 t Mn q) (ht : t ≤ pb C p 1) (hn : pb C p 1 ≤ 84) (h0 : ∀ j, Mn0 j ≤ 84) : ∀ j, Mn j ≤ 84 := by
  intro j
  have hl0 := recS_len C p (fun r => bitB (rh C p r) e == 0) t
  have hl1 := recS_len C p (fun r => bitB (rh C p r) e == 1) t
  have h1 := h.lp ht
  have h2 := h.lx
  by_cases j1 : j = p
  · rw [j1]; omega
  · by_cases j2 : j = x
    · rw [j2]; omega
    · rw [h.2.2.2.1 j j1 j2]; exact h0 j
theorem SPI.new {C : Nat → Nat} {p e x : Nat} {Bd Mn0 : Nat → Nat} {q0 : RQ} (h : RB C p Bd Mn0 q0) (hQ : QB q0) (hpx : p ≠ x) : SPI C p e x Mn0 q0 0 (upN Mn0 x 0) q0 := by
  refine ⟨hQ, ?_, ?_, fun j _ j2 => by rw [upN_at, if_neg j2], fun _ _ _ _ _ => rfl⟩
  · rw [upN_at, if_neg hpx, RB_rcs h, ← rsL_0]
    rfl
  · rw [upN_at, if_pos rfl]
    rfl
/-- which entries a SPLIT tells anew -/
theorem sp_goes {C : Nat → Nat} {pg lg h i : Nat} (hF : FULL C pg lg) (hh : h < 65536) (hD : pb C (entN C (idx C h)) 0 ≠ C 0) (hi : i < 2 ^ C 0) : (entN C i = entN C (idx C h) ∧ i / 2 ^ (C 0 - 1 - pb C (entN C (idx C h)) 0) % 2 = 1) ↔ (spF C h (pb C (entN C (idx C h)) 0) ≤ i ∧ i < spB C h (pb C (entN C (idx C h)) 0)) := by
  have h15 := hF.1.1.2.2.2.1
  have hx := idx_lt (C := C) hh h15
  have e5 := (hF.2.1 _ hx).2.2.2.2
  rw [hF.2.2.1 _ i hx hi]
  unfold spF spB fstE
  generalize pb C (entN C (idx C h)) 0 = e at hD e5 ⊢
  have hs : 2 ^ (C 0 - e) = 2 ^ (C 0 - 1 - e) * 2 := by
    rw [← Nat.pow_succ]
    congr 1
    omega
  have hp : 0 < 2 ^ (C 0 - 1 - e) := Nat.pow_pos (by decide)
  rw [hs]
  generalize 2 ^ (C 0 - 1 - e) = S at hp ⊢
  rw [← Nat.div_div_eq_div_mul i]
  generalize idx C h / (S * 2) = m
  have h1 := div_blk (j := i) (m := 2 * m + 1) hp
  have h2 : (2 * m + 1) * S = m * (S * 2) + S := by rw [Nat.add_mul, Nat.one_mul, Nat.mul_comm S 2, ← Nat.mul_assoc, Nat.mul_comm 2 m]
  rw [h2] at h1
  omega
theorem spF_lt {C : Nat → Nat} {h e : Nat} (he : e < C 0) : spF C h e < spB C h e ∧ fstE C h e < spF C h e := by
  have hp := pow_half he
  have hs0 : 0 < 2 ^ (C 0 - (e + 1)) := Nat.pow_pos (by decide)
  unfold spF spB
  omega
theorem fst_own {C : Nat → Nat} {pg lg h : Nat} (hF : FULL C pg lg) (hh : h < 65536) : fstE C h (pb C (entN C (idx C h)) 0) < 2 ^ C 0 ∧ entN C (fstE C h (pb C (entN C (idx C h)) 0)) = entN C (idx C h) := by
  have h15 := hF.1.1.2.2.2.1
  have hx := idx_lt (C := C) hh h15
  have h1 : fstE C h (pb C (entN C (idx C h)) 0) ≤ idx C h := Nat.div_mul_le_self _ _
  refine ⟨by omega, (hF.2.2.1 _ _ hx (by omega)).mpr ?_⟩
  unfold fstE
  rw [Nat.mul_div_cancel _ (Nat.pow_pos (by decide))]
section SPM
variable {C : Nat → Nat} {pg lg h x p e : Nat} {Dr En En' Cg : Nat → Nat} {Ib : Nat → Bool} {Bd Mn0 Mn : Nat → Nat} {q0 q : RQ}
theorem sp_l0 {t : Nat} (hb : bitB (rh C p t) e ≠ 1) : (recS C p (fun r => bitB (rh C p r) e == 0) (t + 1)).length = (recS C p (fun r => bitB (rh C p r) e == 0) t).length + 1 := by
  have h2 : bitB (rh C p t) e = 0 := by
    have : bitB (rh C p t) e < 2 := Nat.mod_lt _ (by decide)
    omega
  rw [recS_t (sel := fun r => bitB (rh C p r) e == 0) (beq_iff_eq.mpr h2), List.length_append]
  rfl
theorem sp_l1 {t : Nat} (hb : bitB (rh C p t) e = 1) : (recS C p (fun r => bitB (rh C p r) e == 0) (t + 1)).length = (recS C p (fun r => bitB (rh C p r) e == 0) t).length := by
  rw [recS_f (sel := fun r => bitB (rh C p r) e == 0) (beq_false_of_ne (by omega))]
theorem sp_tel (hF : FULL C pg lg) (hh : h < 65536) (hp : p = entN C (idx C h)) (he : e = pb C p 0) (hD : e ≠ C 0) (hq : frN C pg lg 0 = some x) (hl : ¬ lg < 2 + dpO (spF C h e) (spB C h e)) (hR : RM C lg Dr En Ib Bd Mn0 q0) (hI : SPI C p e x Mn0 q0 (pb C p 1) Mn q) (hEn : ∀ i, i < 2 ^ C 0 → En' i = if spF C h e ≤ i ∧ i < spB C h e then x else entN C i) : TEL (C 0) (pF (C 0)) Dr En' (upN (upN Bd p (e + 1)) x (e + 1)) Mn q (ulC (upN (upN Cg 0 p) 1 x) Dr 2 (spF C h e) (dpO (spF C h e) (spB C h e))) (spC C p h x) := by
  subst he
  subst hp
  have hr := sp_rth hF hh hD hq hl
  have hi := idx_lt (C := C) hh hF.1.1.2.2.2.1
  obtain ⟨e1, e2, e3, e4, e5⟩ := hF.2.1 _ hi
  obtain ⟨q1, q2, q3⟩ := frN_in hq
  obtain ⟨-, q4, q5⟩ := kd0_no q2
  have hne : entN C (idx C h) ≠ x := visB_no q5 _ hi
  have hrp : rcs q (entN C (idx C h)) (Mn (entN C (idx C h))) = halfL C (entN C (idx C h)) (pb C (entN C (idx C h)) 0) 0 := by
    rw [hI.2.1, rsL_n (Nat.le_refl _), List.append_nil]
    rfl
  have hrx : rcs q x (Mn x) = halfL C (entN C (idx C h)) (pb C (entN C (idx C h)) 0) 1 := hI.2.2.1
  have hlen : ∀ t, (halfL C (entN C (idx C h)) (pb C (entN C (idx C h)) 0) t).flatten.length ≤ 252 := fun t => Nat.le_trans (recS_le e4) e4.2.2
  refine rt_tel hF hr hR.1 hEn (fun k c hk => ?_) (fun t ht => ?_)
  · match k, hk with
    | 0, hk =>
      cases hk
      refine ⟨?_, fun i hi => ?_, ?_⟩
      · unfold ulC
        rw [if_neg (by omega), upN_at, if_neg (by omega), upN_at, if_pos rfl]
      · show bpg (upN (upN Bd (entN C (idx C h)) (pb C (entN C (idx C h)) 0 + 1)) x (pb C (entN C (idx C h)) 0 + 1) (entN C (idx C h))) (rcs q (entN C (idx C h)) (Mn (entN C (idx C h)))) i = _
        rw [hrp, upN_at, if_neg hne, upN_at, if_pos rfl]
      · rw [← rcs_fl, hrp]
        exact hlen 0
    | 1, hk =>
      cases hk
      refine ⟨?_, fun i hi => ?_, ?_⟩
      · unfold ulC
        rw [if_neg (by omega), upN_at, if_pos rfl]
      · show bpg (upN (upN Bd (entN C (idx C h)) (pb C (entN C (idx C h)) 0 + 1)) x (pb C (entN C (idx C h)) 0 + 1) x) (rcs q x (Mn x)) i = _
        rw [hrx, upN_at, if_pos rfl]
      · rw [← rcs_fl, hrx]
        exact hlen 1
    | k + 2, hk => cases hk
  · show ulC (upN (upN Cg 0 (entN C (idx C h))) 1 x) Dr 2 (spF C h (pb C (entN C (idx C h)) 0)) (dpO (spF C h (pb C (entN C (idx C h)) 0)) (spB C h (pb C (entN C (idx C h)) 0))) (2 + t) = _
    unfold ulC
    rw [if_pos (by omega), show 2 + t - 2 = t by omega]
theorem sp_rm (hF : FULL C pg lg) (hh : h < 65536) (hp : p = entN C (idx C h)) (he : e = pb C p 0) (hD : e ≠ C 0) (hq : frN C pg lg 0 = some x) (hl : ¬ lg < 2 + dpO (spF C h e) (spB C h e)) (hR : RM C lg Dr En Ib Bd Mn0 q0) (hI : SPI C p e x Mn0 q0 (pb C p 1) Mn q) (hEn : ∀ i, i < 2 ^ C 0 → En' i = if spF C h e ≤ i ∧ i < spB C h e then x else entN C i) (hG : GB Dr En' (upN (upN Bd p (e + 1)) x (e + 1)) Mn q) : RM (apC C (spC C p h x)) lg Dr En' (upB Ib x true) (upN (upN Bd p (e + 1)) x (e + 1)) Mn q := by
  subst he
  subst hp
  have hr := sp_rth hF hh hD hq hl
  have hc := sp_chg hF hh hD hq hl
  have hi := idx_lt (C := C) hh hF.1.1.2.2.2.1
  obtain ⟨e1, e2, e3, e4, e5⟩ := hF.2.1 _ hi
  obtain ⟨q1, q2, q3⟩ := frN_in hq
  obtain ⟨-, q4, q5⟩ := kd0_no q2
  have hne : entN C (idx C h) ≠ x := visB_no q5 _ hi
  have hlt := spF_lt (C := C) (h := h) (e := pb C (entN C (idx C h)) 0) (by omega)
  have hle := spB_le (C := C) (h := h) (e := pb C (entN C (idx C h)) 0) hh hF.1.1.2.2.2.1 (by omega)
  have hfo := fst_own hF hh
  have hrp : rcs q (entN C (idx C h)) (Mn (entN C (idx C h))) = halfL C (entN C (idx C h)) (pb C (entN C (idx C h)) 0) 0 := by
    rw [hI.2.1, rsL_n (Nat.le_refl _), List.append_nil]
    rfl
  have hrx : rcs q x (Mn x) = halfL C (entN C (idx C h)) (pb C (entN C (idx C h)) 0) 1 := hI.2.2.1
  have hlen : ∀ t, (halfL C (entN C (idx C h)) (pb C (entN C (idx C h)) 0) t).flatten.length ≤ 252 := fun t => Nat.le_trans (recS_le e4) e4.2.2
  have hvr : ∀ t, ∀ r ∈ halfL C (entN C (idx C h)) (pb C (entN C (idx C h)) 0) t, VR r := fun t => VR_recS e4 (Nat.le_refl _)
  have hm84 := hR.2.2.2.2.2.2.2.1
  refine rt_rm hF hr hc.2.2.2 hR.1 hEn (fun p9 hp9 => ?_) (fun i e9 hi9 he9 => ?_) hG
  · unfold upB
    by_cases r : p9 = x
    · rw [if_pos r]
      exact ⟨fun _ => ⟨_, Nat.lt_of_lt_of_le hlt.1 hle, by rw [if_pos ⟨Nat.le_refl _, hlt.1⟩, r]⟩, fun _ => rfl⟩
    · rw [if_neg r, hR.ib hF hp9]
      constructor
      · rintro ⟨i, hi9, e9⟩
        by_cases r2 : entN C i = entN C (idx C h)
        · refine ⟨_, hfo.1, ?_⟩
          rw [if_neg (by omega), hfo.2, ← r2, e9]
        · refine ⟨i, hi9, ?_⟩
          rw [if_neg (fun z => r2 ((sp_goes hF hh hD hi9).mpr z).1), e9]
      · rintro ⟨i, hi9, e9⟩
        by_cases r2 : spF C h (pb C (entN C (idx C h)) 0) ≤ i ∧ i < spB C h (pb C (entN C (idx C h)) 0)
        · rw [if_pos r2] at e9
          exact absurd e9.symm r
        · rw [if_neg r2] at e9
          exact ⟨i, hi9, e9⟩
  · by_cases r2 : spF C h (pb C (entN C (idx C h)) 0) ≤ i ∧ i < spB C h (pb C (entN C (idx C h)) 0)
    · rw [if_pos r2] at he9
      subst he9
      refine Or.inl ⟨_, List.mem_cons_of_mem _ List.mem_cons_self, rfl, fun t ht => ?_, ?_, ?_⟩
      · rw [hrx, upN_at, if_pos rfl]
      · rw [hrx]; exact hvr 1
      · rw [hrx]; exact hlen 1
    · rw [if_neg r2] at he9
      by_cases r3 : e9 = entN C (idx C h)
      · subst r3
        refine Or.inl ⟨_, List.mem_cons_self, rfl, fun t ht => ?_, ?_, ?_⟩
        · rw [hrp, upN_at, if_neg hne, upN_at, if_pos rfl]
        · rw [hrp]; exact hvr 0
        · rw [hrp]; exact hlen 0
      · have r4 : e9 ≠ x := fun z => visB_no q5 i hi9 (by rw [← he9, z])
        refine Or.inr ⟨he9, fun c hc9 => ?_, ?_⟩
        · rcases List.mem_cons.mp hc9 with z | z
          · rw [z]; exact fun y => r3 y.symm
          · rcases List.mem_cons.mp z with z | z
            · rw [z]; exact fun y => r4 y.symm
            · cases z
        · have := hR.rb hF hi9
          rw [← he9] at this
          exact RB_keep this (by rw [upN_at, if_neg r4, upN_at, if_neg r3]) (hI.2.2.2.1 e9 r3 r4) (hm84 e9) (fun r hr => hI.2.2.2.2 e9 r r3 r4 hr)
end SPM
