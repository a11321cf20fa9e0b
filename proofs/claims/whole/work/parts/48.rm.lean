/-! the reference's arrays ahead of a CHANGE and behind it -/
theorem pg_RB {C C' : Nat → Nat} {p : Nat} {Bd Mn : Nat → Nat} {q : RQ} (h : RB C p Bd Mn q) (hb : WB C p) (hp : PG C C' p) : RB C' p Bd Mn q := by
  refine ⟨by rw [hp 0 (by decide)]; exact h.1, by rw [hp 1 (by decide)]; exact h.2.1, fun r hr => ?_⟩
  rw [hp 1 (by decide)] at hr
  rw [pg_rst hp hb r (by omega), pg_recL hp (hb.fit hr).2]
  exact h.2.2 r hr
theorem FULL.k5 {C : Nat → Nat} {pg lg : Nat} (hF : FULL C pg lg) {p : Nat} : kdN C lg p = 5 ↔ ∃ i, i < 2 ^ C 0 ∧ entN C i = p := by
  constructor
  · intro h
    have h3 := (kd5_ge h).2.2
    unfold visB at h3
    obtain ⟨i, hi, e⟩ := List.any_eq_true.mp h3
    exact ⟨i, List.mem_range.mp hi, beq_iff_eq.mp e⟩
  · rintro ⟨i, hi, rfl⟩
    exact hF.kd5 hi
theorem RM.ag {C C' : Nat → Nat} {pg lg : Nat} {Dr En : Nat → Nat} {Ib : Nat → Bool} {Bd Mn : Nat → Nat} {q : RQ} (hF : FULL C pg lg) (h : RM C lg Dr En Ib Bd Mn q) (ag : AG0 lg C C') : RM C' lg Dr En Ib Bd Mn q := by
  have hw := hF.1.1
  have h7 := pF_le15 hw.2.2.2.1
  have e0 : C' 0 = C 0 := ag.hd (by omega)
  have ha := ag.ha hw
  refine ⟨fun k hk => ?_, fun i hi => ?_, fun p hp => ?_, fun p hp h5 => ?_, h.2.2.2.2⟩
  · rw [e0] at hk
    rw [ag.hd (by omega)]
    exact h.1 k hk
  · rw [e0] at hi
    rw [ha.ent hw.2.2.2.1 hi]
    exact h.2.1 i hi
  · rw [ha.kd hw.2.2.2.1]
    exact h.2.2.1 p hp
  · rw [ha.kd hw.2.2.2.1] at h5
    have h6 := h.2.2.2.1 p hp h5
    obtain ⟨i, hi, e⟩ := hF.k5.mp h5
    have h8 := hF.2.1 i hi
    rw [e] at h8
    exact pg_RB h6 h8.2.2.2.1 (ag p (Or.inr h8.1))
theorem RM_new {C : Nat → Nat} {pg lg : Nat} {Dr En : Nat → Nat} {Ib : Nat → Bool} {Bd Mn : Nat → Nat} {q : RQ} (hF : FULL C pg lg) (h1 : ∀ k, k < pF (C 0) → Dr k = C (1 + k)) (h2 : ∀ i, i < 2 ^ C 0 → En i = entN C i) (h3 : ∀ p, p < 256 → (Ib p = true ↔ ∃ i, i < 2 ^ C 0 ∧ entN C i = p)) (h4 : ∀ i, i < 2 ^ C 0 → RB C (entN C i) Bd Mn q) (hG : GB Dr En Bd Mn q) : RM C lg Dr En Ib Bd Mn q := by
  refine ⟨h1, h2, fun p hp => ?_, fun p hp h5 => ?_, hG⟩
  · cases e : Ib p with
    | true =>
      have := hF.k5.mpr ((h3 p hp).mp e)
      rw [this]
      rfl
    | false =>
      have : kdN C lg p ≠ 5 := fun z => by
        have := (h3 p hp).mpr (hF.k5.mp z)
        rw [e] at this
        cases this
      exact (beq_false_of_ne this).symm
  · obtain ⟨i, hi, e⟩ := hF.k5.mp h5
    rw [← e]
    exact h4 i hi
/-- what the arrays say of the old disk -/
theorem RM.ib {C : Nat → Nat} {pg lg : Nat} {Dr En : Nat → Nat} {Ib : Nat → Bool} {Bd Mn : Nat → Nat} {q : RQ} (hF : FULL C pg lg) (h : RM C lg Dr En Ib Bd Mn q) {p : Nat} (hp : p < 256) : Ib p = true ↔ ∃ i, i < 2 ^ C 0 ∧ entN C i = p := by
  rw [h.2.2.1 p hp, ← hF.k5]
  exact beq_iff_eq
theorem RM.rb {C : Nat → Nat} {pg lg : Nat} {Dr En : Nat → Nat} {Ib : Nat → Bool} {Bd Mn : Nat → Nat} {q : RQ} (hF : FULL C pg lg) (h : RM C lg Dr En Ib Bd Mn q) {i : Nat} (hi : i < 2 ^ C 0) : RB C (entN C i) Bd Mn q := h.2.2.2.1 _ (by have := (hF.2.1 i hi).2.1; have := hF.1.1.2.1; omega) (hF.kd5 hi)
section RZM
variable {C : Nat → Nat} {pg lg q : Nat} {Dr En Dr' En' Cg : Nat → Nat} {Ib : Nat → Bool} {Bd Mn : Nat → Nat} {u : RQ}
theorem eN_all (hF : FULL C pg lg) (h : RZH C pg lg q) {t : Nat} (ht : t < 2 ^ C 0) : ∃ i, i < 2 ^ q ∧ eN C q i = entN C t := by
  rcases h.1 with e | ⟨e, e9⟩
  · refine ⟨2 * t, by rw [e, Nat.pow_succ]; omega, ?_⟩
    unfold eN
    rw [if_pos (by omega), show 2 * t / 2 = t by omega]
  · have hp : 2 ^ C 0 = 2 ^ q * 2 := by rw [← e, Nat.pow_succ]
    refine ⟨t / 2, by omega, ?_⟩
    unfold eN
    rw [if_neg (by omega)]
    have h1 := (hF.2.1 t ht).2.2.2.2
    have h2 := (hF.2.1 t ht).2.1
    have h5 := hF.kd5 ht
    have hlt : pb C (entN C t) 0 < C 0 := by
      rcases Nat.lt_or_ge (pb C (entN C t) 0) (C 0) with z | z
      · exact z
      · exfalso
        have h3 : pb C (entN C t) 0 = C 0 := by omega
        unfold hbD at e9
        rw [any_range h2 (by rw [h5, h3]; simp)] at e9
        cases e9
    refine (hF.2.2.1 t (2 * (t / 2)) ht (by omega)).mpr ?_
    have hs : 2 ^ (C 0 - pb C (entN C t) 0) = 2 * 2 ^ (C 0 - pb C (entN C t) 0 - 1) := by
      rw [← Nat.pow_succ']
      congr 1
      omega
    rw [hs, ← Nat.div_div_eq_div_mul, ← Nat.div_div_eq_div_mul, show 2 * (t / 2) / 2 = t / 2 by omega]
theorem rz_rm (hF : FULL C pg lg) (h : RZH C pg lg q) (hR : RM C lg Dr En Ib Bd Mn u) (hDr : ∀ k, k < pF q → Dr' k = plN C pg lg k) (hD : ∀ j, Dr' j < 256) (hEn : ∀ i, i < 2 ^ q → En' i = eN C q i) (hE : ∀ j, En' j < 256) : RM (apC C (rzC C pg lg q)) lg Dr' En' Ib Bd Mn u := by
  have hF' := rz_full hF h
  have hq := rz_q hF h
  have h7 := pF_le15 (d := q) (by omega)
  have e0 : apC C (rzC C pg lg q) 0 = q := by rw [rz_hd hF h (by decide)]; rfl
  have hpg : ∀ i, i < 2 ^ C 0 → PG C (apC C (rzC C pg lg q)) (entN C i) := fun i hi => by
    have := rz_ent hF h (rzC C pg lg q).length hi
    rw [List.take_length] at this
    exact this
  refine RM_new hF' (fun k hk => ?_) (fun i hi => ?_) (fun p hp => ?_) (fun i hi => ?_) ⟨hD, hE, hR.2.2.2.2.2.2⟩
  · rw [e0] at hk
    rw [hDr k hk, rz_hd hF h (by omega)]
    unfold hdp
    rw [if_neg (by omega), if_pos (by omega), show 1 + k - 1 = k by omega]
  · rw [e0] at hi
    rw [hEn i hi, rz_en hF h hi]
  · rw [hR.ib hF hp, e0]
    constructor
    · rintro ⟨t, ht, e⟩
      obtain ⟨i, hi, e2⟩ := eN_all hF h ht
      exact ⟨i, hi, by rw [rz_en hF h hi, e2, e]⟩
    · rintro ⟨i, hi, e⟩
      rw [rz_en hF h hi] at e
      obtain ⟨t, ht, e2, -⟩ := eN_in h hi
      exact ⟨t, ht, by rw [← e2, e]⟩
  · rw [e0] at hi
    rw [rz_en hF h hi]
    obtain ⟨t, ht, e2, -⟩ := eN_in h hi
    rw [e2]
    exact pg_RB (hR.rb hF ht) (hF.2.1 t ht).2.2.2.1 (hpg t ht)
theorem rzL_get : ∀ (m kk t : Nat), (rzL C pg lg q m kk)[t]? = if t < m then some (plN C pg lg (kk + t), dpg C q (kk + t)) else none := by
  intro m
  induction m with
  | zero => intro kk t; rw [if_neg (by omega)]; rfl
  | succ m ih =>
    intro kk t
    cases t with
    | zero => rw [if_pos (by omega)]; rfl
    | succ t =>
      show (rzL C pg lg q m (kk + 1))[t]? = _
      rw [ih, show kk + 1 + t = kk + (t + 1) by omega]
      by_cases e : t < m
      · rw [if_pos e, if_pos (by omega)]
      · rw [if_neg e, if_neg (by omega)]
theorem rz_tel (hF : FULL C pg lg) (h : RZH C pg lg q) (hDr : ∀ k, k < pF q → Dr' k = plN C pg lg k) (hEn : ∀ i, i < 2 ^ q → En' i = eN C q i) (hC : ∀ k, k < pF q → Cg k = Dr' k) (h0 : Cg (pF q) = 0) : TEL q (pF q) Dr' En' Bd Mn u Cg (rzC C pg lg q) := by
  intro k c hk
  have hw := hF.1.1
  unfold rzC at hk
  by_cases e : k < pF q
  · rw [List.getElem?_append_left (by rw [rzL_len]; exact e), rzL_get, if_pos e] at hk
    cases hk
    rw [Nat.zero_add]
    have h1 := (plN_in (C := C) (q := q) hw e h.2.1).1
    have hd : dfM Dr' (pF q) (plN C pg lg k) = some k := find_range e (beq_iff_eq.mpr (hDr k e)) (fun r hr => beq_false_of_ne (fun z => by
      rw [hDr r (by omega)] at z
      have := plN_inj hF h (by omega) e z
      omega))
    refine ⟨by rw [hC k e, hDr k e], fun i hi => ?_, fun _ z => by rw [hd] at z; cases z⟩
    show rnM q (pF q) Dr' En' Bd Mn u (plN C pg lg k) i = dpg C q k i
    rw [rnM_d (by omega) hd]
    unfold dpM dpg dpi
    by_cases r : i < 256 ∧ k * 256 + i < 2 ^ q
    · rw [if_pos r, if_pos r, hEn _ r.2]
    · rw [if_neg r, if_neg r]
  · rw [List.getElem?_append_right (by rw [rzL_len]; omega), rzL_len] at hk
    have ek : k - pF q = 0 := by
      rcases Nat.lt_or_ge (k - pF q) 1 with z | z
      · omega
      · rw [List.getElem?_eq_none (by exact z)] at hk
        cases hk
    rw [ek] at hk
    cases hk
    refine ⟨by rw [show k = pF q by omega]; exact h0, fun i hi => ?_, fun z => absurd rfl z⟩
    show rnM q (pF q) Dr' En' Bd Mn u 0 i = hdp C pg lg q (pF q) i
    rw [rnM_0]
    unfold hdM hdp
    by_cases e1 : i = 0
    · rw [if_pos e1, if_pos e1]
    · rw [if_neg e1, if_neg e1]
      by_cases e2 : i ≤ pF q
      · rw [if_pos e2, if_pos e2, hDr _ (by omega)]
      · rw [if_neg e2, if_neg e2]
end RZM
section RTM
variable {C : Nat → Nat} {pg lg a b x : Nat} {pre : List (Nat × (Nat → Nat))} {Dr En Dr' En' Cg : Nat → Nat} {Ib Ib' : Nat → Bool} {Bd Mn Bd' Mn' : Nat → Nat} {u u' : RQ}
theorem rtL_get : ∀ (m kk t : Nat), (rtL C a b x m kk)[t]? = if t < m then some (pb C 0 (1 + (kk + t)), rtp C (kk + t) a b x) else none := by
  intro m
  induction m with
  | zero => intro kk t; rw [if_neg (by omega)]; rfl
  | succ m ih =>
    intro kk t
    cases t with
    | zero => rw [if_pos (by omega)]; rfl
    | succ t =>
      show (rtL C a b x m (kk + 1))[t]? = _
      rw [ih, show kk + 1 + t = kk + (t + 1) by omega]
      by_cases e : t < m
      · rw [if_pos e, if_pos (by omega)]
      · rw [if_neg e, if_neg (by omega)]
theorem rt_tel (hF : FULL C pg lg) (hr : RTH C pg lg pre a b x) (hDr : ∀ k, k < pF (C 0) → Dr k = C (1 + k)) (hEn : ∀ i, i < 2 ^ C 0 → En' i = if a ≤ i ∧ i < b then x else entN C i) (hpre : ∀ k c, pre[k]? = some c → Cg k = c.1 ∧ (∀ i, i < 256 → bkM Bd' Mn' u' c.1 i = c.2 i) ∧ btM u' c.1 (Mn' c.1) ≤ 252) (hC : ∀ t, t < dpO a b → Cg (pre.length + t) = Dr (a / 256 + t)) : TEL (C 0) (pF (C 0)) Dr En' Bd' Mn' u' Cg (rtC C pre a b x) := by
  intro k c hk
  have hw := hF.1.1
  unfold rtC at hk
  by_cases e : k < pre.length
  · rw [List.getElem?_append_left e] at hk
    obtain ⟨p1, p2, p3⟩ := hpre k c hk
    obtain ⟨g1, g2, -⟩ := hr.1 c (List.mem_of_getElem? hk)
    have hd : dfM Dr (pF (C 0)) c.1 = none := find_range_n (fun r hr9 => beq_false_of_ne (by rw [hDr r hr9]; exact dirB_no g1 r hr9))
    refine ⟨p1, fun i hi => ?_, fun _ _ => p3⟩
    rw [rnM_b (by omega) hd]
    exact p2 i hi
  · obtain ⟨t, rfl⟩ : ∃ t, k = pre.length + t := ⟨k - pre.length, by omega⟩
    rw [List.getElem?_append_right (by omega), show pre.length + t - pre.length = t by omega, rtL_get] at hk
    by_cases et : t < dpO a b
    · rw [if_pos et] at hk
      cases hk
      have hkk := (rt_k hF hr).1
      have htk : a / 256 + t < pF (C 0) := by omega
      have hge := hw.2.2.2.2.2.1 _ htk
      have hb := hr.2.2.2.2.1
      have hd : dfM Dr (pF (C 0)) (C (1 + (a / 256 + t))) = some (a / 256 + t) := find_range htk (beq_iff_eq.mpr (hDr _ htk)) (fun r hr9 => beq_false_of_ne (fun z => by
        rw [hDr r (by omega)] at z
        have := hF.2.2.2.1 r (a / 256 + t) (by omega) htk z
        omega))
      rw [pb0]
      refine ⟨by rw [hC t et, hDr _ htk], fun i hi => ?_, fun _ z => by rw [hd] at z; cases z⟩
      show rnM (C 0) (pF (C 0)) Dr En' Bd' Mn' u' (C (1 + (a / 256 + t))) i = rtp C (a / 256 + t) a b x i
      rw [rnM_d (by omega) hd, rtp_in hi]
      unfold dpM
      by_cases r : i < 256 ∧ (a / 256 + t) * 256 + i < 2 ^ C 0
      · rw [if_pos r, hEn _ r.2]
        by_cases r2 : a ≤ (a / 256 + t) * 256 + i ∧ (a / 256 + t) * 256 + i < b
        · rw [if_pos r2, if_pos r2]
        · rw [if_neg r2, if_neg r2]
          unfold entN
          rw [pb0, show ((a / 256 + t) * 256 + i) / 256 = a / 256 + t by omega, show ((a / 256 + t) * 256 + i) % 256 = i by omega]
      · rw [if_neg r, if_neg (by omega), hF.2.2.2.2 _ i htk hi (by omega)]
    · rw [if_neg et] at hk
      cases hk
theorem rt_rm (hF : FULL C pg lg) (hr : RTH C pg lg pre a b x) (hF' : FULL (apC C (rtC C pre a b x)) pg lg) (hDr : ∀ k, k < pF (C 0) → Dr k = C (1 + k)) (hEn : ∀ i, i < 2 ^ C 0 → En' i = if a ≤ i ∧ i < b then x else entN C i) (hIb : ∀ p, p < 256 → (Ib' p = true ↔ ∃ i, i < 2 ^ C 0 ∧ (if a ≤ i ∧ i < b then x else entN C i) = p)) (hB : ∀ i e, i < 2 ^ C 0 → e = (if a ≤ i ∧ i < b then x else entN C i) → (∃ c ∈ pre, c.1 = e ∧ (∀ i, i < 256 → c.2 i = bpg (Bd' e) (rcs u' e (Mn' e)) i) ∧ (∀ r ∈ rcs u' e (Mn' e), VR r) ∧ (rcs u' e (Mn' e)).flatten.length ≤ 252) ∨ (e = entN C i ∧ (∀ c ∈ pre, c.1 ≠ e) ∧ RB C e Bd' Mn' u')) (hG : GB Dr En' Bd' Mn' u') : RM (apC C (rtC C pre a b x)) lg Dr En' Ib' Bd' Mn' u' := by
  have hw := hF.1.1
  have h7 := pF_le15 hw.2.2.2.1
  have hd0 : ∀ i, i < 256 → apC C (rtC C pre a b x) i = C i := fun i hi => by
    have := rt_0 hF hr (rtC C pre a b x).length hi
    rw [List.take_length] at this
    exact this
  have e0 := hd0 0 (by decide)
  refine RM_new hF' (fun k hk => ?_) (fun i hi => ?_) (fun p hp => ?_) (fun i hi => ?_) hG
  · rw [e0] at hk
    rw [hd0 _ (by omega)]
    exact hDr k hk
  · rw [e0] at hi
    rw [rt_end hF hr hi]
    exact hEn i hi
  · rw [hIb p hp, e0]
    constructor
    · rintro ⟨i, hi, e⟩
      exact ⟨i, hi, by rw [rt_end hF hr hi]; exact e⟩
    · rintro ⟨i, hi, e⟩
      rw [rt_end hF hr hi] at e
      exact ⟨i, hi, e⟩
  · rw [e0] at hi
    rw [rt_end hF hr hi]
    generalize he : (if a ≤ i ∧ i < b then x else entN C i) = e
    rcases hB i e hi he.symm with ⟨c, hc, c1, c2, c3, c4⟩ | ⟨e1, e2, e3⟩
    · refine PB_RB ⟨fun t ht => ?_, c3, c4⟩
      rw [← c2 t ht, ← c1]
      exact rt_pre hF hr hc ht
    · have h8 := hF.2.1 i hi
      rw [← e1] at h8
      exact pg_RB e3 h8.2.2.2.1 (rt_oth hF hr h8.2.2.1 e2)
end RTM
