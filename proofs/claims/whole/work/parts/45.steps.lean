/-! the steps of the map keep the invariant: SPLIT, MERGE, DOUBLING, HALVING, the WRITE of a bucket -/
theorem kd0_no {C : Nat → Nat} {lg p : Nat} (h : kdN C lg p = 0) : lg + 2 ≤ p ∧ dirB C (pF (C 0)) p = false ∧ visB C (2 ^ C 0) p = false := by
  unfold kdN at h
  by_cases e0 : p = 0
  · rw [if_pos e0] at h; omega
  rw [if_neg e0] at h
  by_cases e1 : p = 1
  · rw [if_pos e1] at h; omega
  rw [if_neg e1] at h
  by_cases e2 : p < lg + 2
  · rw [if_pos e2] at h; omega
  rw [if_neg e2] at h
  cases e3 : dirB C (pF (C 0)) p with
  | true => rw [e3, if_pos rfl] at h; omega
  | false =>
    rw [e3, if_neg (by decide)] at h
    cases e4 : visB C (2 ^ C 0) p with
    | true => rw [e4, if_pos rfl] at h; omega
    | false => exact ⟨by omega, rfl, rfl⟩
theorem visB_no {C : Nat → Nat} {n p : Nat} (h : visB C n p = false) : ∀ i, i < n → entN C i ≠ p := fun i hi e => by
  unfold visB at h
  rw [any_range hi (by rw [e]; exact beq_self_eq_true p)] at h
  cases h
theorem FULL.kd5 {C : Nat → Nat} {pg lg : Nat} (h : FULL C pg lg) {i : Nat} (hi : i < 2 ^ C 0) : kdN C lg (entN C i) = 5 := by
  obtain ⟨h1, h2, h3, -⟩ := h.2.1 i hi
  have h4 : visB C (2 ^ C 0) (entN C i) = true := any_range hi (beq_self_eq_true _)
  unfold kdN
  rw [if_neg (by omega), if_neg (by omega), if_neg (by omega), if_neg (by rw [h3]; decide), if_pos h4]
theorem FULL.bs {C : Nat → Nat} {pg lg : Nat} (h : FULL C pg lg) : BS (C 0) (entN C) (fun e => pb C e 0) := h.2.2.1
/-- SPLIT -/
theorem sp_rth {C : Nat → Nat} {pg lg h q : Nat} (hF : FULL C pg lg) (hh : h < 65536) (hD : pb C (entN C (idx C h)) 0 ≠ C 0) (hq : frN C pg lg 0 = some q) (hl : ¬ lg < 2 + dpO (spF C h (pb C (entN C (idx C h)) 0)) (spB C h (pb C (entN C (idx C h)) 0))) : RTH C pg lg [(entN C (idx C h), bpg (pb C (entN C (idx C h)) 0 + 1) (halfL C (entN C (idx C h)) (pb C (entN C (idx C h)) 0) 0)), (q, bpg (pb C (entN C (idx C h)) 0 + 1) (halfL C (entN C (idx C h)) (pb C (entN C (idx C h)) 0) 1))] (spF C h (pb C (entN C (idx C h)) 0)) (spB C h (pb C (entN C (idx C h)) 0)) q := by
  have h15 := hF.1.1.2.2.2.1
  have hi := idx_lt (C := C) hh h15
  obtain ⟨e1, e2, e3, e4, e5⟩ := hF.2.1 _ hi
  obtain ⟨q1, q2, q3⟩ := frN_in hq
  obtain ⟨-, q4, q5⟩ := kd0_no q2
  have hne : entN C (idx C h) ≠ q := visB_no q5 _ hi
  have hb : ∀ t, BPG (bpg (pb C (entN C (idx C h)) 0 + 1) (halfL C (entN C (idx C h)) (pb C (entN C (idx C h)) 0) t)) := fun t => ⟨⟨_, _, fun _ _ => rfl, VR_recS e4 (Nat.le_refl _), Nat.le_trans (recS_le e4) e4.2.2⟩, fun i _ => half_lt hF.1.1.2.2.1 e4 (by have := hF.1.2.2.2; omega) i⟩
  have hp := pow_half (d := C 0) (D := pb C (entN C (idx C h)) 0) (by omega)
  have hs0 : 0 < 2 ^ (C 0 - (pb C (entN C (idx C h)) 0 + 1)) := Nat.pow_pos (by decide)
  refine ⟨fun c hc => ?_, ?_, by simp only [List.length_cons, List.length_nil]; omega, ?_, spB_le hh h15 (by omega), q1, q3, q4, Or.inr ⟨_, List.mem_cons_of_mem _ List.mem_cons_self, rfl⟩⟩
  · rcases List.mem_cons.mp hc with r | r
    · rw [r]; exact ⟨e3, e1, e2, hb 0⟩
    · rcases List.mem_cons.mp r with r | r
      · rw [r]; exact ⟨q4, q3, q1, hb 1⟩
      · cases r
  · show [entN C (idx C h), q].Nodup
    rw [List.nodup_cons]
    exact ⟨fun z => hne (List.mem_singleton.mp z), List.nodup_cons.mpr ⟨List.not_mem_nil, List.nodup_nil⟩⟩
  · unfold spF spB
    omega
theorem sp_chg {C : Nat → Nat} {pg lg h q : Nat} (hF : FULL C pg lg) (hh : h < 65536) (hD : pb C (entN C (idx C h)) 0 ≠ C 0) (hq : frN C pg lg 0 = some q) (hl : ¬ lg < 2 + dpO (spF C h (pb C (entN C (idx C h)) 0)) (spB C h (pb C (entN C (idx C h)) 0))) : CHG C (spC C (entN C (idx C h)) h q) pg lg := by
  have hr := sp_rth hF hh hD hq hl
  have h15 := hF.1.1.2.2.2.1
  have hi := idx_lt (C := C) hh h15
  obtain ⟨e1, e2, e3, e4, e5⟩ := hF.2.1 _ hi
  obtain ⟨q1, q2, q3⟩ := frN_in hq
  obtain ⟨-, q4, q5⟩ := kd0_no q2
  refine rt_chg hF hr (BS_split hF.bs hi (show pb C (entN C (idx C h)) 0 < C 0 by omega) (visB_no q5) rfl rfl) (fun i hi9 => ?_)
  have hp0 := rt_pre hF hr (c := (entN C (idx C h), bpg (pb C (entN C (idx C h)) 0 + 1) (halfL C (entN C (idx C h)) (pb C (entN C (idx C h)) 0) 0))) List.mem_cons_self (i := 0) (by decide)
  have hp1 := rt_pre hF hr (c := (q, bpg (pb C (entN C (idx C h)) 0 + 1) (halfL C (entN C (idx C h)) (pb C (entN C (idx C h)) 0) 1))) (List.mem_cons_of_mem _ List.mem_cons_self) (i := 0) (by decide)
  by_cases r : spF C h (pb C (entN C (idx C h)) 0) ≤ i ∧ i < spB C h (pb C (entN C (idx C h)) 0)
  · rw [if_pos r, if_pos (Or.inr rfl)]
    exact ⟨hp1, show pb C (entN C (idx C h)) 0 + 1 ≤ C 0 by omega⟩
  · rw [if_neg r]
    by_cases r2 : entN C i = entN C (idx C h)
    · rw [if_pos (Or.inl r2), r2]
      exact ⟨hp0, show pb C (entN C (idx C h)) 0 + 1 ≤ C 0 by omega⟩
    · have hiq := visB_no q5 i hi9
      rw [if_neg (fun z => z.elim r2 hiq)]
      have hf := hF.2.1 i hi9
      refine ⟨rt_oth hF hr hf.2.2.1 (fun c hc => ?_) 0 (by decide), hf.2.2.2.2⟩
      rcases List.mem_cons.mp hc with z | z
      · rw [z]; exact fun y => r2 y.symm
      · rcases List.mem_cons.mp z with z | z
        · rw [z]; exact fun y => hiq y.symm
        · cases z
/-- the buckets of a MERGE -/
theorem mg_facts {C : Nat → Nat} {pg lg h o : Nat} (hF : FULL C pg lg) (hh : h < 65536) (hm : mpN C h = some o) : ∃ t D S kp lf, D = pb C (entN C (idx C h)) 0 ∧ S = 2 ^ (C 0 - D) ∧ 1 ≤ D ∧ D ≤ C 0 ∧ kp = (if mgB C h D then entN C (idx C h) else o) ∧ lf = (if mgB C h D then o else entN C (idx C h)) ∧ mgF C h D = (2 * t + 1) * S ∧ (2 * t + 1) * S + S ≤ 2 ^ C 0 ∧ entN C (2 * t * S) = kp ∧ entN C ((2 * t + 1) * S) = lf ∧ pb C kp 0 = D ∧ pb C lf 0 = D ∧ bL C kp + bL C lf ≤ 126 ∧ kp ≠ lf := by
  obtain ⟨m1, m2, m3, m4⟩ := mpN_some hm
  have h15 := hF.1.1.2.2.2.1
  have hi := idx_lt (C := C) hh h15
  have e5 := (hF.2.1 _ hi).2.2.2.2
  generalize hD : pb C (entN C (idx C h)) 0 = D at m1 m2 m4 e5
  have hS2 : 2 ^ (C 0 - D) < 2 ^ C 0 := Nat.pow_lt_pow_right (by decide) (by omega)
  have hx : idx C h ^^^ 2 ^ (C 0 - D) < 2 ^ C 0 := Nat.xor_lt_two_pow hi hS2
  have p0 : 0 < 2 ^ (C 0 - D) := Nat.pow_pos (by decide)
  obtain ⟨t, ht⟩ := xor_blk (idx C h) (C 0 - D)
  have bi : ∀ j, j < 2 ^ C 0 → (entN C j = entN C (idx C h) ↔ j / 2 ^ (C 0 - D) = idx C h / 2 ^ (C 0 - D)) := fun j hj => by
    have := hF.2.2.1 (idx C h) j hi hj
    rw [hD] at this
    exact this
  have bo : ∀ j, j < 2 ^ C 0 → (entN C j = o ↔ j / 2 ^ (C 0 - D) = (idx C h ^^^ 2 ^ (C 0 - D)) / 2 ^ (C 0 - D)) := fun j hj => by
    have := hF.2.2.1 (idx C h ^^^ 2 ^ (C 0 - D)) j hx hj
    rw [← m2, m4] at this
    exact this
  have l1 := blk_le hi (show C 0 - D ≤ C 0 by omega)
  have l2 := blk_le hx (show C 0 - D ≤ C 0 by omega)
  have hmf : mgF C h D = (2 * t + 1) * 2 ^ (C 0 - D) := by
    unfold mgF
    rcases ht with ⟨-, -, -, e⟩ | ⟨-, -, -, e⟩ <;> rw [e]
  have e0 := two_mul_blk t (2 ^ (C 0 - D))
  have e1 := two_mul_blk1 t (2 ^ (C 0 - D))
  rcases ht with ⟨t1, t2, t3, -⟩ | ⟨t1, t2, t3, -⟩
  · rw [t1] at bi l1
    rw [t2] at bo l2
    have hb : mgB C h D = true := by unfold mgB; rw [t3]; rfl
    have ka : entN C (2 * t * 2 ^ (C 0 - D)) = entN C (idx C h) := (bi _ (by omega)).mpr (Nat.mul_div_cancel _ p0)
    have la : entN C ((2 * t + 1) * 2 ^ (C 0 - D)) = o := (bo _ (by omega)).mpr (Nat.mul_div_cancel _ p0)
    refine ⟨t, D, _, entN C (idx C h), o, rfl, rfl, m1, e5, by rw [hb]; rfl, by rw [hb]; rfl, hmf, l2, ka, la, hD, m4, m3, fun z => ?_⟩
    have := (bi _ (show (2 * t + 1) * 2 ^ (C 0 - D) < 2 ^ C 0 by omega)).mp (by rw [la, z])
    rw [Nat.mul_div_cancel _ p0] at this
    omega
  · rw [t1] at bi l1
    rw [t2] at bo l2
    have hb : mgB C h D = false := by unfold mgB; exact beq_false_of_ne t3
    have ka : entN C (2 * t * 2 ^ (C 0 - D)) = o := (bo _ (by omega)).mpr (Nat.mul_div_cancel _ p0)
    have la : entN C ((2 * t + 1) * 2 ^ (C 0 - D)) = entN C (idx C h) := (bi _ (by omega)).mpr (Nat.mul_div_cancel _ p0)
    refine ⟨t, D, _, o, entN C (idx C h), rfl, rfl, m1, e5, by rw [hb]; rfl, by rw [hb]; rfl, hmf, l1, ka, la, m4, hD, by omega, fun z => ?_⟩
    have := (bo _ (show (2 * t + 1) * 2 ^ (C 0 - D) < 2 ^ C 0 by omega)).mp (by rw [la, z])
    rw [Nat.mul_div_cancel _ p0] at this
    omega
/-- MERGE -/
theorem mg_rth {C : Nat → Nat} {pg lg t D S kp lf : Nat} (hF : FULL C pg lg) (hS : S = 2 ^ (C 0 - D)) (hDd : D ≤ C 0) (hle : (2 * t + 1) * S + S ≤ 2 ^ C 0) (hk : entN C (2 * t * S) = kp) (hl : entN C ((2 * t + 1) * S) = lf) (hb : bL C kp + bL C lf ≤ 126) (hlog : ¬ lg < 1 + dpO ((2 * t + 1) * S) ((2 * t + 1) * S + S)) : RTH C pg lg [(kp, bpg (D - 1) (allL C kp ++ allL C lf))] ((2 * t + 1) * S) ((2 * t + 1) * S + S) kp := by
  have p0 : 0 < S := by rw [hS]; exact Nat.pow_pos (by decide)
  have e0 := two_mul_blk t S
  have e1 := two_mul_blk1 t S
  obtain ⟨k1, k2, k3, k4, k5⟩ := hF.2.1 (2 * t * S) (by omega)
  obtain ⟨l1, l2, l3, l4, l5⟩ := hF.2.1 ((2 * t + 1) * S) (by omega)
  rw [hk] at k1 k2 k3 k4
  rw [hl] at l4
  have a1 := (allL_len k4).1
  have a2 := (allL_len l4).1
  refine ⟨fun c hc => ?_, List.nodup_cons.mpr ⟨List.not_mem_nil, List.nodup_nil⟩, by simp only [List.length_cons, List.length_nil]; omega, by omega, hle, k2, k1, k3, Or.inl k4⟩
  rw [List.mem_singleton.mp hc]
  refine ⟨k3, k1, k2, ⟨⟨D - 1, _, fun _ _ => rfl, fun r hr => ?_, ?_⟩, fun i _ => two_lt hF.1.1.2.2.1 (by have := hF.1.2.2.2; omega) k4 l4 hb i⟩⟩
  · rcases List.mem_append.mp hr with z | z
    · exact VR_recS k4 (Nat.le_refl _) r z
    · exact VR_recS l4 (Nat.le_refl _) r z
  · rw [List.flatten_append, List.length_append, a1, a2]
    omega
theorem mg_chg {C : Nat → Nat} {pg lg t D S kp lf : Nat} (hF : FULL C pg lg) (hS : S = 2 ^ (C 0 - D)) (hD1 : 1 ≤ D) (hDd : D ≤ C 0) (hle : (2 * t + 1) * S + S ≤ 2 ^ C 0) (hk : entN C (2 * t * S) = kp) (hl : entN C ((2 * t + 1) * S) = lf) (hkd : pb C kp 0 = D) (hld : pb C lf 0 = D) (hb : bL C kp + bL C lf ≤ 126) (hlog : ¬ lg < 1 + dpO ((2 * t + 1) * S) ((2 * t + 1) * S + S)) : CHG C (mgC C D kp lf ((2 * t + 1) * S) ((2 * t + 1) * S + S)) pg lg := by
  have hr := mg_rth hF hS hDd hle hk hl hb hlog
  refine rt_chg hF hr (BS_merge hF.bs hS hD1 hDd hle hk hl hkd hld) (fun i hi9 => ?_)
  have hp0 := rt_pre hF hr (c := (kp, bpg (D - 1) (allL C kp ++ allL C lf))) List.mem_cons_self (i := 0) (by decide)
  have key : ∀ e, (e = kp ∨ ∃ j, j < 2 ^ C 0 ∧ entN C j = e) → pb (apC C (rtC C [(kp, bpg (D - 1) (allL C kp ++ allL C lf))] ((2 * t + 1) * S) ((2 * t + 1) * S + S) kp)) e 0 = (if e = kp then D - 1 else pb C e 0) ∧ (if e = kp then D - 1 else pb C e 0) ≤ C 0 := by
    intro e he
    by_cases r2 : e = kp
    · rw [if_pos r2, r2]
      exact ⟨hp0, by omega⟩
    · rw [if_neg r2]
      rcases he with he | ⟨j, hj, he⟩
      · exact absurd he r2
      · have hf := hF.2.1 j hj
        rw [he] at hf
        exact ⟨rt_oth hF hr hf.2.2.1 (fun c hc => by rw [List.mem_singleton.mp hc]; exact fun y => r2 y.symm) 0 (by decide), hf.2.2.2.2⟩
  apply key
  by_cases r : (2 * t + 1) * S ≤ i ∧ i < (2 * t + 1) * S + S
  · rw [if_pos r]; exact Or.inl rfl
  · rw [if_neg r]; exact Or.inr ⟨i, hi9, rfl⟩
/-- the WRITE of a bucket of the directory -/
theorem FULL_wr {C f : Nat → Nat} {pg lg i0 : Nat} (hF : FULL C pg lg) (hi0 : i0 < 2 ^ C 0) (hf : BPG f) (h0 : f 0 = pb C (entN C i0) 0) : FULL (wrp C (entN C i0) f) pg lg := by
  obtain ⟨⟨f1, f2, f3, f4⟩, f5, f6, f7, f8⟩ := id hF
  obtain ⟨p1, p2, p3, p4, p5⟩ := f5 i0 hi0
  have h7 := pF_le15 f1.2.2.2.1
  have hno := dirB_no p3
  have hne : ∀ k, k < pF (C 0) → C (1 + k) ≠ entN C i0 := hno
  have ha : HA C (wrp C (entN C i0) f) := HA.wr f1.2.2.2.1 (by omega) hne
  have hd0 : ∀ i, i < 256 → wrp C (entN C i0) f i = C i := fun i hi => by
    have := wrp_out (C := C) (f := f) (p := entN C i0) (q := 0) hi (by omega)
    rw [pb0, pb0] at this
    exact this
  have e0 := hd0 0 (by decide)
  have he : ∀ i, i < 2 ^ C 0 → entN (wrp C (entN C i0) f) i = entN C i := fun i hi => ha.ent f1.2.2.2.1 hi
  have hb := wrp_lt (p := entN C i0) f1.2.2.1 hf.2
  have hdp : ∀ e, pb (wrp C (entN C i0) f) e 0 = pb C e 0 := fun e => by
    by_cases r : e = entN C i0
    · rw [r, wrp_in (by decide), h0]
    · exact wrp_out (by decide) r
  obtain ⟨w1, w2, w3, w4, w5, w6, w7⟩ := f1
  refine ⟨⟨⟨w1, w2, hb, by rw [e0]; exact w4, fun k hk => ?_, fun k hk => ?_, w7⟩, f2, f3, by rw [e0]; exact f4⟩, fun i hi => ?_, fun i j hi hj => ?_, fun k k' hk hk' => ?_, fun k j hk hj hd => ?_⟩
  · rw [e0] at hk; rw [hd0 _ (by omega)]; exact w5 k hk
  · rw [e0] at hk; rw [hd0 _ (by omega)]; exact w6 k hk
  · rw [e0] at hi ⊢
    rw [he i hi, dirB_hd hd0 (by omega), hdp]
    obtain ⟨g1, g2, g3, g4, g5⟩ := f5 i hi
    refine ⟨g1, g2, g3, ?_, g5⟩
    by_cases r : entN C i = entN C i0
    · rw [r]
      obtain ⟨⟨d, rs, b1, b2, b3⟩, -⟩ := hf
      exact PB_WB (PB_wr b1 b2 b3)
    · exact pg_WB (fun t ht => wrp_out ht r) g4
  · rw [e0] at hi hj ⊢
    rw [he i hi, he j hj, hdp]
    exact f6 i j hi hj
  · rw [e0] at hk hk'
    rw [hd0 _ (by omega), hd0 _ (by omega)]
    exact f7 k k' hk hk'
  · rw [e0] at hk hd
    rw [hd0 _ (by omega), wrp_out hj (hne k hk)]
    exact f8 k j hk hj hd
