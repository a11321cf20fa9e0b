theorem rec_eq {q : RQ} {C : Nat → Nat} {p s y : Nat} (h : rcB q y = recL C p s) : q.1 y = pb C p s ∧ q.2.1 y = pb C p (s + 1) ∧ (∀ j, j < pb C p s → kb q y j = pb C p (s + 2 + j)) ∧ ∀ j, j < pb C p (s + 1) → vb q y j = pb C p (s + 2 + pb C p s + j) := by
  rw [recL_split] at h
  unfold rcB at h
  injection h with h1 h2
  injection h2 with h2 h3
  rw [h1, h2] at h3
  obtain ⟨h4, h5⟩ := List.append_inj h3 (by simp)
  refine ⟨h1, h2, fun j hj => ?_, fun j hj => ?_⟩
  · exact List.map_inj_left.mp h4 j (List.mem_range.mpr hj)
  · exact List.map_inj_left.mp h5 j (List.mem_range.mpr hj)
theorem rec_sz {q : RQ} {C : Nat → Nat} {p s y : Nat} (h : rcB q y = recL C p s) : 2 + q.1 y + q.2.1 y = rsz C p s := by
  obtain ⟨h1, h2, -⟩ := rec_eq h
  rw [h1, h2]
  rfl
theorem RB.bt {C : Nat → Nat} {p : Nat} {Bd Mn : Nat → Nat} {q : RQ} (h : RB C p Bd Mn q) : ∀ n, n ≤ pb C p 1 → 4 + btM q p n = rst C p n := by
  intro n
  induction n with
  | zero => intro _; rfl
  | succ n ih =>
    intro hn
    show 4 + (btM q p n + (2 + q.1 (90 * p + n) + q.2.1 (90 * p + n))) = rst C p n + rsz C p (rst C p n)
    rw [← ih (by omega), rec_sz (h.2.2 n (by omega)), ← ih (by omega)]
    omega
theorem RB.bL {C : Nat → Nat} {p : Nat} {Bd Mn : Nat → Nat} {q : RQ} (h : RB C p Bd Mn q) (hw : WB C p) : btM q p (Mn p) = bL C p := by
  have h1 := h.bt _ (Nat.le_refl _)
  rw [hw.2.1] at h1
  rw [h.2.1]
  omega
theorem kd5_ge {C : Nat → Nat} {lg p : Nat} (h : kdN C lg p = 5) : lg + 2 ≤ p ∧ dirB C (pF (C 0)) p = false ∧ visB C (2 ^ C 0) p = true := by
  have := vkB_kd (C := C) (lg := lg) (fun _ _ => trivial) p
  rw [h] at this
  unfold vkB at this
  have h1 : (visB C (2 ^ C 0) p && (decide (lg + 2 ≤ p) && !dirB C (pF (C 0)) p)) = true := this
  simp only [Bool.and_eq_true, decide_eq_true_eq, Bool.not_eq_true'] at h1
  exact ⟨h1.2.1, h1.2.2, h1.1⟩
theorem EB.wb {C : Nat → Nat} {pg lg p : Nat} (h : EB C pg lg) (h5 : kdN C lg p = 5) : p < pg ∧ WB C p := by
  obtain ⟨h1, h2, h3⟩ := kd5_ge h5
  unfold visB at h3
  obtain ⟨i, hi, he⟩ := List.any_eq_true.mp h3
  have he' : entN C i = p := beq_iff_eq.mp he
  have h4 := h i (List.mem_range.mp hi)
  rw [he'] at h4
  exact ⟨h4.1, h4.2 h1 h2⟩
set_option maxHeartbeats 1000000 in
set_option maxRecDepth 20000 in
theorem z_X5_thrown {D : va_G} {cI cB cJ cZ : ClassId} {hm : Nat} {r : Nat → Nat} {th : Int} {pg lg : Nat} {wt al dn : Int} {dp dm tp an ch : Nat}  : ∀ l, Rd l yX5_thrown cX5_thrown 1 (some .int) ({ frames := 0, cells := 0, slots := 0, locals := 0 }) D (TY cI cB cJ cZ) [.ref hm] [oM hm r th pg lg wt al dn dp dm tp an ch] (fun v => v = some (.int (iI th))) := by
  intro l
  refine Rd_of (by decide) (Nat.le_of_ble_eq_true rfl) (fun x k hq => ?_)
  refine v_aload_n (n := 1) k dX5_thrown_0 rfl rfl ?_
  refine v_get (n := 4) k ciX5 0 0 (by decide) fl_X5_1 rfl rfl dX5_thrown_1 rfl ?_
  refine v_iretR k hq ?_ dX5_thrown_4
  rfl
set_option maxHeartbeats 1000000 in
set_option maxRecDepth 20000 in
theorem z_X5_throwing {D : va_G} {cI cB cJ cZ : ClassId} {hm : Nat} {r : Nat → Nat} {th : Int} {pg lg : Nat} {wt al dn : Int} {dp dm tp an ch : Nat} {N : Int}  : ∀ l, Up l yX5_throwing cX5_throwing 2 (some .int) ({ frames := 0, cells := 0, slots := 0, locals := 0 }) D (TY cI cB cJ cZ) [.ref hm, .int (iI N)] [oM hm r th pg lg wt al dn dp dm tp an ch] (fun v w1 => v = some (.int (iI 0)) ∧ w1 = [oM hm r N pg lg wt al dn dp dm tp an ch]) := by
  intro l
  refine Up_of (by decide) (Nat.le_of_ble_eq_true rfl) (fun x k hq => ?_)
  refine v_aload_n (n := 1) k dX5_throwing_0 rfl rfl ?_
  refine v_iload_n (n := 2) k dX5_throwing_1 rfl rfl ?_
  refine v_put (n := 5) k ciX5 0 0 (by decide) fl_X5_1 rfl rfl (rfl) (rfl) (Nat.le_of_ble_eq_true rfl) dX5_throwing_2 rfl ?_
  refine v_iconst (n := 6) k dX5_throwing_5 rfl ?_
  refine v_iretU k hq ?_ rfl dX5_throwing_6
  exact ⟨rfl, rfl⟩
theorem kd_4 {C : Nat → Nat} {lg p : Nat} (h2 : lg + 2 ≤ p) (h : dirB C (pF (C 0)) p = true) : kdN C lg p = 4 := by
  unfold kdN
  rw [if_neg (by omega), if_neg (by omega), if_neg (by omega), if_pos h]
theorem kd_3 {C : Nat → Nat} {lg p : Nat} (h1 : 2 ≤ p) (h2 : p < lg + 2) : kdN C lg p = 3 := by
  unfold kdN
  rw [if_neg (by omega), if_neg (by omega), if_pos h2]
theorem kd_0 {C : Nat → Nat} {lg p : Nat} (h2 : lg + 2 ≤ p) (h : dirB C (pF (C 0)) p = false) (h5 : ¬ kdN C lg p = 5) : kdN C lg p = 0 := by
  unfold kdN at h5 ⊢
  rw [if_neg (by omega), if_neg (by omega), if_neg (by omega), if_neg (by rw [h]; decide)] at h5 ⊢
  split at h5
  · exact absurd rfl h5
  · rename_i h9
    rw [if_neg h9]
theorem kd_1 {C : Nat → Nat} {lg p : Nat} (h : p < 2) : ((kdN C lg p : Nat) : Int) = (p : Int) + 1 := by
  unfold kdN
  rcases (by omega : p = 0 ∨ p = 1) with rfl | rfl
  · rfl
  · rfl
set_option maxHeartbeats 1000000 in
set_option maxRecDepth 20000 in
theorem z_X5_kindOf {D : va_G} {cI cB cJ cZ : ClassId} {hm : Nat} {r : Nat → Nat} {th : Int} {pg lg : Nat} {wt al dn : Int} {tp an ch : Nat} {C : Nat → Nat} {Dr : Nat → Nat} {Ib : Nat → Bool} {P : Int} {p : Nat} (hP : P = (p : Int)) (hp : p < pg) (hDr : ∀ k, k < pF (C 0) → Dr k = C (1 + k)) (hD : ∀ j, Dr j < 256) (hIb : ∀ p, p < 256 → Ib p = (kdN C lg p == 5)) (hw : DW C pg lg) : ∀ l, Rd l yX5_kindOf cX5_kindOf 2 (some .int) ({ frames := 1, cells := 0, slots := 0, locals := 22 }) D (TY cI cB cJ cZ) [.ref hm, .int (iI P)] [oM hm r th pg lg wt al dn (C 0) (pF (C 0)) tp an ch, aZ cZ (r 4) 256 Ib, aN cI (r 1) 256 Dr] (fun v => v = some (.int (iI ((kdN C lg p : Nat) : Int)))) := by
  intro l
  refine Rd_of (by decide) (Nat.le_of_ble_eq_true rfl) (fun x k hq => ?_)
  obtain ⟨w1, w2, w3, w4, w5, w6, w7⟩ := id hw
  have hpf := pF_le15 w4
  refine v_iload_n (n := 1) k dX5_kindOf_0 rfl rfl ?_
  refine v_iconst (n := 2) k dX5_kindOf_1 rfl ?_
  refine v_icmp_ge (n := 5) (t := 9) k (⟨by omega, by omega⟩) (⟨by omega, by omega⟩) dX5_kindOf_2 (by decide) rfl (fun c_2 => ?_) (fun c_2 => ?_)
  · refine v_iload_n (n := 10) k dX5_kindOf_9 rfl rfl ?_
    refine v_aload_n (n := 11) k dX5_kindOf_10 rfl rfl ?_
    refine v_get (n := 14) k ciX5 0 3 (by decide) fl_X5_72 rfl rfl dX5_kindOf_11 rfl ?_
    refine v_iconst (n := 15) k dX5_kindOf_14 rfl ?_
    refine v_iadd (n := 16) k dX5_kindOf_15 rfl ?_
    refine v_icmp_ge (n := 19) (t := 23) k (⟨by omega, by omega⟩) (⟨by omega, by omega⟩) dX5_kindOf_16 (by decide) rfl (fun c_16 => ?_) (fun c_16 => ?_)
    · refine v_aload_n (n := 24) k dX5_kindOf_23 rfl rfl ?_
      refine v_iload_n (n := 25) k dX5_kindOf_24 rfl rfl ?_
      refine v_rdVi (n := 28) k [0, 2] 0 (z_X5_isDirectory (p := p) hP (by omega) (by omega) hD) miX5_isDirectory ml_X5_101 (by decide) (by decide) rfl (by decide) rfl rfl rfl rfl (Nat.le_of_ble_eq_true rfl) ⟨Nat.zero_le _, Nat.zero_le _⟩ dX5_kindOf_25 rfl ?_
      refine v_if_eq (n := 31) (t := 35) k (bI_in _) dX5_kindOf_28 (by decide) rfl (fun c_28 => ?_) (fun c_28 => ?_)
      · refine v_aload_n (n := 36) k dX5_kindOf_35 rfl rfl ?_
        refine v_get (n := 39) k ciX5 0 12 (by decide) fl_X5_28 rfl rfl dX5_kindOf_36 rfl ?_
        refine v_iload_n (n := 40) k dX5_kindOf_39 rfl rfl ?_
        refine v_zaldN (n := 41) k 1 3 (p) rfl rfl (by omega) (by omega) (by omega) dX5_kindOf_40 rfl ?_
        refine v_if_eq (n := 44) (t := 48) k (bI_in _) dX5_kindOf_41 (by decide) rfl (fun c_41 => ?_) (fun c_41 => ?_)
        · refine v_iconst (n := 49) k dX5_kindOf_48 rfl ?_
          refine v_iretR k hq ?_ dX5_kindOf_49
          have h9 : dirB C (pF (C 0)) p = false := by
            rw [← dirM_B hDr]
            cases h9 : dirM Dr (pF (C 0)) p with
            | false => rfl
            | true => rw [bI_t h9] at c_28; exact absurd c_28 (by decide)
          have h5 : ¬ kdN C lg p = 5 := by
            have h8 := hIb p (by omega)
            cases h7 : Ib p with
            | true => rw [bI_t h7] at c_41; exact absurd c_41 (by decide)
            | false => rw [h7] at h8; intro h; rw [h] at h8; exact absurd h8 (by decide)
          rw [kd_0 (by omega) h9 h5]; rfl
        · refine v_iconst (n := 45) k dX5_kindOf_44 rfl ?_
          refine v_goto (t := 49) k dX5_kindOf_45 (by decide) ?_
          refine v_iretR k hq ?_ dX5_kindOf_49
          have h5 : kdN C lg p = 5 := by
            have h8 := hIb p (by omega)
            cases h9 : Ib p with
            | false => exact absurd (bI_f h9) c_41
            | true => rw [h9] at h8; exact beq_iff_eq.mp h8.symm
          rw [h5]; rfl
      · refine v_iconst (n := 32) k dX5_kindOf_31 rfl ?_
        refine v_goto (t := 49) k dX5_kindOf_32 (by decide) ?_
        refine v_iretR k hq ?_ dX5_kindOf_49
        have h9 : dirB C (pF (C 0)) p = true := by
          rw [← dirM_B hDr]
          cases h9 : dirM Dr (pF (C 0)) p with
          | true => rfl
          | false => exact absurd (bI_f h9) c_28
        rw [kd_4 (by omega) h9]; rfl
    · refine v_iconst (n := 20) k dX5_kindOf_19 rfl ?_
      refine v_goto (t := 49) k dX5_kindOf_20 (by decide) ?_
      refine v_iretR k hq ?_ dX5_kindOf_49
      rw [kd_3 (by omega) (by omega)]; rfl
  · refine v_iload_n (n := 6) k dX5_kindOf_5 rfl rfl ?_
    refine v_iconst (n := 7) k dX5_kindOf_6 rfl ?_
    refine v_iadd (n := 8) k dX5_kindOf_7 rfl ?_
    refine v_iretR k hq ?_ dX5_kindOf_8
    rw [kd_1 (by omega), hP]
set_option maxHeartbeats 1000000 in
set_option maxRecDepth 20000 in
theorem z_X5_kind {D : va_G} {cI cB cJ cZ : ClassId} {hm : Nat} {r : Nat → Nat} {th : Int} {pg lg : Nat} {wt al dn : Int} {tp an ch : Nat} {C : Nat → Nat} {Dr : Nat → Nat} {Ib : Nat → Bool} {P : Int} (hP : in32 P) (hDr : ∀ k, k < pF (C 0) → Dr k = C (1 + k)) (hD : ∀ j, Dr j < 256) (hIb : ∀ p, p < 256 → Ib p = (kdN C lg p == 5)) (hw : DW C pg lg) : ∀ l, Up l yX5_kind cX5_kind 2 (some .int) ({ frames := 2, cells := 0, slots := 0, locals := 43 }) D (TY cI cB cJ cZ) [.ref hm, .int (iI P)] [oM hm r th pg lg wt al dn (C 0) (pF (C 0)) tp an ch, aZ cZ (r 4) 256 Ib, aN cI (r 1) 256 Dr] (fun v w1 => v = some (.int (iI (kdF C pg lg P))) ∧ w1 = [oM hm r 0 pg lg wt al dn (C 0) (pF (C 0)) tp an ch, aZ cZ (r 4) 256 Ib, aN cI (r 1) 256 Dr]) := by
  intro l
  refine Up_of (by decide) (Nat.le_of_ble_eq_true rfl) (fun x k hq => ?_)
  have w2 := hw.2.1
  refine v_aload_n (n := 1) k dX5_kind_0 rfl rfl ?_
  refine v_iconst (n := 2) k dX5_kind_1 rfl ?_
  refine v_put (n := 5) k ciX5 0 0 (by decide) fl_X5_1 rfl rfl (rfl) (rfl) (Nat.le_of_ble_eq_true rfl) dX5_kind_2 rfl ?_
  refine v_aload_n (n := 6) k dX5_kind_5 rfl rfl ?_
  refine v_iload_n (n := 7) k dX5_kind_6 rfl rfl ?_
  refine v_rdVi (n := 10) k [0] 0 (z_X5_isPage hP w2) miX5_isPage ml_X5_208 (by decide) (by decide) rfl (by decide) rfl rfl rfl rfl (Nat.le_of_ble_eq_true rfl) ⟨Nat.zero_le _, Nat.zero_le _⟩ dX5_kind_7 rfl ?_
  refine v_if_eq (n := 13) (t := 21) k (bI_in _) dX5_kind_10 (by decide) rfl (fun c_10 => ?_) (fun c_10 => ?_)
  · have hno : ¬ (0 ≤ P ∧ P < (pg : Int)) := fun h => by
      rw [bI_t (show pgF pg P = true from decide_eq_true h)] at c_10
      exact absurd c_10 (by decide)
    refine v_iconst (n := 22) k dX5_kind_21 rfl ?_
    refine v_iretU k hq ?_ rfl dX5_kind_22
    exact ⟨by rw [kdF, if_neg hno], rfl⟩
  · have hyes : 0 ≤ P ∧ P < (pg : Int) := by
      have h9 : pgF pg P = true := by
        cases h8 : pgF pg P with
        | true => rfl
        | false => exact absurd (bI_f h8) c_10
      exact of_decide_eq_true h9
    have hpe : P = ((P.toNat : Nat) : Int) := by omega
    have hpl : P.toNat < pg := by omega
    refine v_aload_n (n := 14) k dX5_kind_13 rfl rfl ?_
    refine v_iload_n (n := 15) k dX5_kind_14 rfl rfl ?_
    refine v_rdVi (n := 18) k [0, 1, 2] 0 (z_X5_kindOf (p := P.toNat) hpe hpl hDr hD hIb hw) miX5_kindOf ml_X5_211 (by decide) (by decide) rfl (by decide) rfl rfl rfl rfl (Nat.le_of_ble_eq_true rfl) ⟨Nat.zero_le _, Nat.zero_le _⟩ dX5_kind_15 rfl ?_
    refine v_goto (t := 22) k dX5_kind_18 (by decide) ?_
    refine v_iretU k hq ?_ rfl dX5_kind_22
    exact ⟨by rw [kdF, if_pos hyes], rfl⟩
set_option maxHeartbeats 1000000 in
set_option maxRecDepth 20000 in
theorem z_X5_byteOf {D : va_G} {cI cB cJ cZ : ClassId} {hm : Nat} {r : Nat → Nat} {th : Int} {pg lg : Nat} {wt al dn : Int} {tp an ch : Nat} {C : Nat → Nat} {Cm : Nat → Nat} {P I : Int} (hP : in32 P) (hI : in32 I) (hg : pg ≤ 255) (hA : AGP pg Cm C) : ∀ l, Up l yX5_byteOf cX5_byteOf 3 (some .int) ({ frames := 1, cells := 0, slots := 0, locals := 22 }) D (TY cI cB cJ cZ) [.ref hm, .int (iI P), .int (iI I)] [oM hm r th pg lg wt al dn (C 0) (pF (C 0)) tp an ch, aB cB (r 0) 65536 Cm] (fun v w1 => v = some (.int (iI (atF C pg P I))) ∧ w1 = [oM hm r 0 pg lg wt al dn (C 0) (pF (C 0)) tp an ch, aB cB (r 0) 65536 Cm]) := by
  intro l
  refine Up_of (by decide) (Nat.le_of_ble_eq_true rfl) (fun x k hq => ?_)
  obtain ⟨hi1, hi2⟩ := id hI
  refine v_aload_n (n := 1) k dX5_byteOf_0 rfl rfl ?_
  refine v_iconst (n := 2) k dX5_byteOf_1 rfl ?_
  refine v_put (n := 5) k ciX5 0 0 (by decide) fl_X5_1 rfl rfl (rfl) (rfl) (Nat.le_of_ble_eq_true rfl) dX5_byteOf_2 rfl ?_
  refine v_aload_n (n := 6) k dX5_byteOf_5 rfl rfl ?_
  refine v_iload_n (n := 7) k dX5_byteOf_6 rfl rfl ?_
  refine v_rdVi (n := 10) k [0] 0 (z_X5_isPage hP hg) miX5_isPage ml_X5_208 (by decide) (by decide) rfl (by decide) rfl rfl rfl rfl (Nat.le_of_ble_eq_true rfl) ⟨Nat.zero_le _, Nat.zero_le _⟩ dX5_byteOf_7 rfl ?_
  refine v_if_eq (n := 13) (t := 24) k (bI_in _) dX5_byteOf_10 (by decide) rfl (fun c_10 => ?_) (fun c_10 => ?_)
  · have hno : ¬ (0 ≤ P ∧ P < (pg : Int)) := fun h => by
      rw [bI_t (show pgF pg P = true from decide_eq_true h)] at c_10
      exact absurd c_10 (by decide)
    refine v_iconst (n := 25) k dX5_byteOf_24 rfl ?_
    refine v_goto (t := 34) k dX5_byteOf_25 (by decide) ?_
    refine v_iretU k hq ?_ rfl dX5_byteOf_34
    exact ⟨by rw [atF, if_neg (fun h => hno ⟨h.1, h.2.1⟩)], rfl⟩
  · have hyes : 0 ≤ P ∧ P < (pg : Int) := by
      have h9 : pgF pg P = true := by
        cases h8 : pgF pg P with
        | true => rfl
        | false => exact absurd (bI_f h8) c_10
      exact of_decide_eq_true h9
    have hpe : P = ((P.toNat : Nat) : Int) := by omega
    have hpl : P.toNat < pg := by omega
    refine v_iload_n (n := 14) k dX5_byteOf_13 rfl rfl ?_
    refine v_if_lt (n := 17) (t := 24) k (⟨by omega, by omega⟩) dX5_byteOf_14 (by decide) rfl (fun c_14 => ?_) (fun c_14 => ?_)
    · refine v_iconst (n := 25) k dX5_byteOf_24 rfl ?_
      refine v_goto (t := 34) k dX5_byteOf_25 (by decide) ?_
      refine v_iretU k hq ?_ rfl dX5_byteOf_34
      exact ⟨by rw [atF, if_neg (by omega)], rfl⟩
    · refine v_iload_n (n := 18) k dX5_byteOf_17 rfl rfl ?_
      refine v_sipush (n := 21) k dX5_byteOf_18 (by decide) rfl ?_
      refine v_icmp_le (n := 24) (t := 28) k (⟨by omega, by omega⟩) (⟨by omega, by omega⟩) dX5_byteOf_21 (by decide) rfl (fun c_21 => ?_) (fun c_21 => ?_)
      · refine v_aload_n (n := 29) k dX5_byteOf_28 rfl rfl ?_
        refine v_iload_n (n := 30) k dX5_byteOf_29 rfl rfl ?_
        refine v_iload_n (n := 31) k dX5_byteOf_30 rfl rfl ?_
        refine v_rdVi (n := 34) k [0, 1] 0 (z_X5_at (p := P.toNat) (i := I.toNat) hpe (by omega) hpl (by omega) hg hA) miX5_at ml_X5_91 (by decide) (by decide) rfl (by decide) rfl rfl rfl rfl (Nat.le_of_ble_eq_true rfl) ⟨Nat.zero_le _, Nat.zero_le _⟩ dX5_byteOf_31 rfl ?_
        refine v_iretU k hq ?_ rfl dX5_byteOf_34
        refine ⟨?_, rfl⟩
        rw [atF, if_pos ⟨by omega, by omega, by omega, by omega⟩]
        show some (Value.int (iI ((C (P.toNat * 256 + I.toNat) : Nat) : Int))) = _
        rw [show (P * 256 + I).toNat = P.toNat * 256 + I.toNat by omega]
      · refine v_iconst (n := 25) k dX5_byteOf_24 rfl ?_
        refine v_goto (t := 34) k dX5_byteOf_25 (by decide) ?_
        refine v_iretU k hq ?_ rfl dX5_byteOf_34
        exact ⟨by rw [atF, if_neg (by omega)], rfl⟩
set_option maxHeartbeats 1000000 in
set_option maxRecDepth 20000 in
theorem z_X5_hash {D : va_G} {cI cB cJ cZ : ClassId} {hm : Nat} {r : Nat → Nat} {th : Int} {pg lg : Nat} {wt al dn : Int} {tp an ch : Nat} {C : Nat → Nat} {T : Nat → Nat} (htp : tp ≤ 48) (hT : ∀ j, T j < 256) : ∀ l, Up l yX5_hash cX5_hash 1 (some .int) ({ frames := 2, cells := 0, slots := 0, locals := 45 }) D (TY cI cB cJ cZ) [.ref hm] [oM hm r th pg lg wt al dn (C 0) (pF (C 0)) tp an ch, aB cB (r 11) 48 T] (fun v w1 => v = some (.int (iI (hshF T tp))) ∧ w1 = [oM hm r 0 pg lg wt al dn (C 0) (pF (C 0)) tp an ch, aB cB (r 11) 48 T]) := by
  intro l
  refine Up_of (by decide) (Nat.le_of_ble_eq_true rfl) (fun x k hq => ?_)
  refine v_aload_n (n := 1) k dX5_hash_0 rfl rfl ?_
  refine v_iconst (n := 2) k dX5_hash_1 rfl ?_
  refine v_put (n := 5) k ciX5 0 0 (by decide) fl_X5_1 rfl rfl (rfl) (rfl) (Nat.le_of_ble_eq_true rfl) dX5_hash_2 rfl ?_
  refine v_aload_n (n := 6) k dX5_hash_5 rfl rfl ?_
  refine v_get (n := 9) k ciX5 0 20 (by decide) fl_X5_172 rfl rfl dX5_hash_6 rfl ?_
  refine v_iconst (n := 10) k dX5_hash_9 rfl ?_
  refine v_icmp_lt (n := 13) (t := 22) k (⟨by omega, by omega⟩) (⟨by omega, by omega⟩) dX5_hash_10 (by decide) rfl (fun c_10 => ?_) (fun c_10 => ?_)
  · refine v_iconst (n := 23) k dX5_hash_22 rfl ?_
    refine v_goto (t := 34) k dX5_hash_23 (by decide) ?_
    refine v_iretU k hq ?_ rfl dX5_hash_34
    first
    | exact ⟨by rw [hshF, if_pos ⟨by omega, by omega⟩], rfl⟩
    | exact ⟨by rw [hshF, if_neg (by omega)], rfl⟩
  · refine v_aload_n (n := 14) k dX5_hash_13 rfl rfl ?_
    refine v_get (n := 17) k ciX5 0 20 (by decide) fl_X5_172 rfl rfl dX5_hash_14 rfl ?_
    refine v_bipush (n := 19) k dX5_hash_17 (by decide) rfl ?_
    refine v_icmp_le (n := 22) (t := 26) k (⟨by omega, by omega⟩) (⟨by omega, by omega⟩) dX5_hash_19 (by decide) rfl (fun c_19 => ?_) (fun c_19 => ?_)
    · refine v_aload_n (n := 27) k dX5_hash_26 rfl rfl ?_
      refine v_aload_n (n := 28) k dX5_hash_27 rfl rfl ?_
      refine v_get (n := 31) k ciX5 0 20 (by decide) fl_X5_172 rfl rfl dX5_hash_28 rfl ?_
      refine v_rdVi (n := 34) k [0, 1] 0 (z_X5_tapeHash (z := tp) rfl htp hT) miX5_tapeHash ml_X5_140 (by decide) (by decide) rfl (by decide) rfl rfl rfl rfl (Nat.le_of_ble_eq_true rfl) ⟨Nat.zero_le _, Nat.zero_le _⟩ dX5_hash_31 rfl ?_
      refine v_iretU k hq ?_ rfl dX5_hash_34
      first
      | exact ⟨by rw [hshF, if_pos ⟨by omega, by omega⟩], rfl⟩
      | exact ⟨by rw [hshF, if_neg (by omega)], rfl⟩
    · refine v_iconst (n := 23) k dX5_hash_22 rfl ?_
      refine v_goto (t := 34) k dX5_hash_23 (by decide) ?_
      refine v_iretU k hq ?_ rfl dX5_hash_34
      first
      | exact ⟨by rw [hshF, if_pos ⟨by omega, by omega⟩], rfl⟩
      | exact ⟨by rw [hshF, if_neg (by omega)], rfl⟩
set_option maxHeartbeats 1000000 in
set_option maxRecDepth 20000 in
theorem z_X5_entry {D : va_G} {cI cB cJ cZ : ClassId} {hm : Nat} {r : Nat → Nat} {th : Int} {pg lg : Nat} {wt al dn : Int} {tp an ch : Nat} {C : Nat → Nat} {En : Nat → Nat} {I : Int} (hI : in32 I) (h15 : C 0 ≤ 15) (hEn : ∀ i, i < 2 ^ C 0 → En i = entN C i) : ∀ l, Up l yX5_entry cX5_entry 2 (some .int) ({ frames := 0, cells := 0, slots := 0, locals := 0 }) D (TY cI cB cJ cZ) [.ref hm, .int (iI I)] [oM hm r th pg lg wt al dn (C 0) (pF (C 0)) tp an ch, aN cI (r 2) 65536 En] (fun v w1 => v = some (.int (iI (entF C I))) ∧ w1 = [oM hm r 0 pg lg wt al dn (C 0) (pF (C 0)) tp an ch, aN cI (r 2) 65536 En]) := by
  intro l
  refine Up_of (by decide) (Nat.le_of_ble_eq_true rfl) (fun x k hq => ?_)
  obtain ⟨hi1, hi2⟩ := id hI
  have h15a : 2 ^ C 0 ≤ 2 ^ 15 := Nat.pow_le_pow_right (by decide) h15
  have h15b : (2 : Nat) ^ 15 = 32768 := by decide
  have h16 : 0 < 2 ^ C 0 := Nat.pow_pos (by decide)
  refine v_aload_n (n := 1) k dX5_entry_0 rfl rfl ?_
  refine v_iconst (n := 2) k dX5_entry_1 rfl ?_
  refine v_put (n := 5) k ciX5 0 0 (by decide) fl_X5_1 rfl rfl (rfl) (rfl) (Nat.le_of_ble_eq_true rfl) dX5_entry_2 rfl ?_
  refine v_iload_n (n := 6) k dX5_entry_5 rfl rfl ?_
  refine v_if_lt (n := 9) (t := 19) k (⟨by omega, by omega⟩) dX5_entry_6 (by decide) rfl (fun c_6 => ?_) (fun c_6 => ?_)
  · refine v_iconst (n := 20) k dX5_entry_19 rfl ?_
    refine v_goto (t := 29) k dX5_entry_20 (by decide) ?_
    refine v_iretU k hq ?_ rfl dX5_entry_29
    exact ⟨by rw [entF, if_neg (by omega)], rfl⟩
  · refine v_iload_n (n := 10) k dX5_entry_9 rfl rfl ?_
    refine v_iconst (n := 11) k dX5_entry_10 rfl ?_
    refine v_aload_n (n := 12) k dX5_entry_11 rfl rfl ?_
    refine v_get (n := 15) k ciX5 0 7 (by decide) fl_X5_95 rfl rfl dX5_entry_12 rfl ?_
    refine v_ishl (n := 16) k (((2 ^ C 0 : Nat) : Int)) (by have h9 := ax_shl (a := 1) (d := C 0) rfl rfl (by omega) (by omega); rw [Nat.one_mul] at h9; exact h9) dX5_entry_15 rfl ?_
    refine v_icmp_lt (n := 19) (t := 23) k (⟨by omega, by omega⟩) (⟨by omega, by omega⟩) dX5_entry_16 (by decide) rfl (fun c_16 => ?_) (fun c_16 => ?_)
    · refine v_aload_n (n := 24) k dX5_entry_23 rfl rfl ?_
      refine v_get (n := 27) k ciX5 0 10 (by decide) fl_X5_22 rfl rfl dX5_entry_24 rfl ?_
      refine v_iload_n (n := 28) k dX5_entry_27 rfl rfl ?_
      refine v_ialdN (n := 29) k 1 0 (I.toNat) rfl rfl (by omega) (by omega) (by omega) dX5_entry_28 rfl ?_
      refine v_iretU k hq ?_ rfl dX5_entry_29
      exact ⟨by rw [entF, if_pos ⟨by omega, by omega⟩, hEn _ (by omega)], rfl⟩
    · refine v_iconst (n := 20) k dX5_entry_19 rfl ?_
      refine v_goto (t := 29) k dX5_entry_20 (by decide) ?_
      refine v_iretU k hq ?_ rfl dX5_entry_29
      exact ⟨by rw [entF, if_neg (by omega)], rfl⟩
set_option maxHeartbeats 1000000 in
set_option maxRecDepth 20000 in
theorem z_X5_answer {D : va_G} {cI cB cJ cZ : ClassId} {hm : Nat} {r : Nat → Nat} {th : Int} {pg lg : Nat} {wt al dn : Int} {tp an ch : Nat} {C : Nat → Nat} {An : Nat → Nat} {I : Int} (hI : in32 I) (han : an ≤ 32) (hAn : ∀ j, An j < 256) : ∀ l, Up l yX5_answer cX5_answer 2 (some .int) ({ frames := 0, cells := 0, slots := 0, locals := 0 }) D (TY cI cB cJ cZ) [.ref hm, .int (iI I)] [oM hm r th pg lg wt al dn (C 0) (pF (C 0)) tp an ch, aB cB (r 12) 32 An] (fun v w1 => v = some (.int (iI (ansF An (an : Int) I))) ∧ w1 = [oM hm r 0 pg lg wt al dn (C 0) (pF (C 0)) tp an ch, aB cB (r 12) 32 An]) := by
  intro l
  refine Up_of (by decide) (Nat.le_of_ble_eq_true rfl) (fun x k hq => ?_)
  obtain ⟨hi1, hi2⟩ := id hI
  refine v_aload_n (n := 1) k dX5_answer_0 rfl rfl ?_
  refine v_iconst (n := 2) k dX5_answer_1 rfl ?_
  refine v_put (n := 5) k ciX5 0 0 (by decide) fl_X5_1 rfl rfl (rfl) (rfl) (Nat.le_of_ble_eq_true rfl) dX5_answer_2 rfl ?_
  refine v_iload_n (n := 6) k dX5_answer_5 rfl rfl ?_
  refine v_if_lt (n := 9) (t := 17) k (⟨by omega, by omega⟩) dX5_answer_6 (by decide) rfl (fun c_6 => ?_) (fun c_6 => ?_)
  · refine v_iconst (n := 18) k dX5_answer_17 rfl ?_
    refine v_goto (t := 31) k dX5_answer_18 (by decide) ?_
    refine v_iretU k hq ?_ rfl dX5_answer_31
    exact ⟨by rw [ansF, if_neg (by omega)], rfl⟩
  · refine v_iload_n (n := 10) k dX5_answer_9 rfl rfl ?_
    refine v_aload_n (n := 11) k dX5_answer_10 rfl rfl ?_
    refine v_get (n := 14) k ciX5 0 22 (by decide) fl_X5_85 rfl rfl dX5_answer_11 rfl ?_
    refine v_icmp_lt (n := 17) (t := 21) k (⟨by omega, by omega⟩) (⟨by omega, by omega⟩) dX5_answer_14 (by decide) rfl (fun c_14 => ?_) (fun c_14 => ?_)
    · refine v_aload_n (n := 22) k dX5_answer_21 rfl rfl ?_
      refine v_get (n := 25) k ciX5 0 21 (by decide) fl_X5_56 rfl rfl dX5_answer_22 rfl ?_
      refine v_iload_n (n := 26) k dX5_answer_25 rfl rfl ?_
      refine v_baldN (n := 27) k 1 1 (I.toNat) rfl rfl (by omega) (by omega) (by omega) dX5_answer_26 rfl ?_
      refine v_sipush (n := 30) k dX5_answer_27 (by decide) rfl ?_
      refine v_iand (n := 31) k (((An I.toNat : Nat) : Int)) (sb_and _ (hAn _)) dX5_answer_30 rfl ?_
      refine v_iretU k hq ?_ rfl dX5_answer_31
      exact ⟨by rw [ansF, if_pos ⟨by omega, by omega⟩], rfl⟩
    · refine v_iconst (n := 18) k dX5_answer_17 rfl ?_
      refine v_goto (t := 31) k dX5_answer_18 (by decide) ?_
      refine v_iretU k hq ?_ rfl dX5_answer_31
      exact ⟨by rw [ansF, if_neg (by omega)], rfl⟩
set_option maxHeartbeats 1000000 in
set_option maxRecDepth 20000 in
theorem z_X5_power {D : va_G} {cI cB cJ cZ : ClassId} {hm : Nat} {r : Nat → Nat} {th : Int} {pg lg : Nat} {wt al dn : Int} {dp dm tp an ch : Nat} {N : Int} (hN : in32 N) (hdn : dn = 0 ∨ dn = 1) : ∀ l, Up l yX5_power cX5_power 2 none ({ frames := 0, cells := 0, slots := 0, locals := 0 }) D (TY cI cB cJ cZ) [.ref hm, .int (iI N)] [oM hm r th pg lg wt al dn dp dm tp an ch] (fun v w1 => v = none ∧ w1 = [oM hm r (if dn = 1 then 1 else if N < -1 then 2 else 0) pg lg wt (if dn = 1 then al else if N < -1 then al else N) dn dp dm tp an ch]) := by
  intro l
  refine Up_of (by decide) (Nat.le_of_ble_eq_true rfl) (fun x k hq => ?_)
  obtain ⟨hi1, hi2⟩ := id hN
  refine v_aload_n (n := 1) k dX5_power_0 rfl rfl ?_
  refine v_iconst (n := 2) k dX5_power_1 rfl ?_
  refine v_put (n := 5) k ciX5 0 0 (by decide) fl_X5_1 rfl rfl (rfl) (rfl) (Nat.le_of_ble_eq_true rfl) dX5_power_2 rfl ?_
  refine v_aload_n (n := 6) k dX5_power_5 rfl rfl ?_
  refine v_get (n := 9) k ciX5 0 6 (by decide) fl_X5_81 rfl rfl dX5_power_6 rfl ?_
  refine v_if_eq (n := 12) (t := 20) k (⟨by omega, by omega⟩) dX5_power_9 (by decide) rfl (fun c_9 => ?_) (fun c_9 => ?_)
  · refine v_iload_n (n := 21) k dX5_power_20 rfl rfl ?_
    refine v_iconst (n := 22) k dX5_power_21 rfl ?_
    refine v_icmp_ge (n := 25) (t := 33) k (⟨by omega, by omega⟩) (⟨by omega, by omega⟩) dX5_power_22 (by decide) rfl (fun c_22 => ?_) (fun c_22 => ?_)
    · refine v_aload_n (n := 34) k dX5_power_33 rfl rfl ?_
      refine v_iload_n (n := 35) k dX5_power_34 rfl rfl ?_
      refine v_put (n := 38) k ciX5 0 5 (by decide) fl_X5_78 rfl rfl (rfl) (rfl) (Nat.le_of_ble_eq_true rfl) dX5_power_35 rfl ?_
      refine v_vretU k hq ?_ rfl dX5_power_38
      have e1 : ¬ dn = 1 := by omega
      rw [if_neg e1, if_neg e1, if_neg (by omega), if_neg (by omega)]
      exact ⟨rfl, rfl⟩
    · refine v_aload_n (n := 26) k dX5_power_25 rfl rfl ?_
      refine v_iconst (n := 27) k dX5_power_26 rfl ?_
      refine v_put (n := 30) k ciX5 0 0 (by decide) fl_X5_1 rfl rfl (rfl) (rfl) (Nat.le_of_ble_eq_true rfl) dX5_power_27 rfl ?_
      refine v_goto (t := 38) k dX5_power_30 (by decide) ?_
      refine v_vretU k hq ?_ rfl dX5_power_38
      have e1 : ¬ dn = 1 := by omega
      rw [if_neg e1, if_neg e1, if_pos (by omega), if_pos (by omega)]
      exact ⟨rfl, rfl⟩
  · refine v_aload_n (n := 13) k dX5_power_12 rfl rfl ?_
    refine v_iconst (n := 14) k dX5_power_13 rfl ?_
    refine v_put (n := 17) k ciX5 0 0 (by decide) fl_X5_1 rfl rfl (rfl) (rfl) (Nat.le_of_ble_eq_true rfl) dX5_power_14 rfl ?_
    refine v_goto (t := 38) k dX5_power_17 (by decide) ?_
    refine v_vretU k hq ?_ rfl dX5_power_38
    have e1 : dn = 1 := by omega
    rw [if_pos e1, if_pos e1]
    exact ⟨rfl, rfl⟩
set_option maxHeartbeats 1000000 in
set_option maxRecDepth 20000 in
theorem z_X5_bucket_ {D : va_G} {cI cB cJ cZ : ClassId} {hm : Nat} {r : Nat → Nat} {th : Int} {pg lg : Nat} {wt al dn : Int} {tp an ch : Nat} {C : Nat → Nat} {Bd : Nat → Nat} {Mn : Nat → Nat} {Ib : Nat → Bool} {q : RQ} {Dr En : Nat → Nat} {P Q : Int} (hP : in32 P) (hQ : in32 Q) (hR : RM C lg Dr En Ib Bd Mn q) (hE : EB C pg lg) (hw : DW C pg lg) : ∀ l, Up l yX5_bucket_ cX5_bucket_ 3 (some .int) ({ frames := 1, cells := 0, slots := 0, locals := 23 }) D (TY cI cB cJ cZ) [.ref hm, .int (iI P), .int (iI Q)] [oM hm r th pg lg wt al dn (C 0) (pF (C 0)) tp an ch, aZ cZ (r 4) 256 Ib, aN cI (r 5) 256 Bd, aN cI (r 6) 256 Mn, aN cI (r 7) 23040 q.1, aN cI (r 8) 23040 q.2.1] (fun v w1 => v = some (.int (iI (bktF C pg lg P Q))) ∧ w1 = [oM hm r 0 pg lg wt al dn (C 0) (pF (C 0)) tp an ch, aZ cZ (r 4) 256 Ib, aN cI (r 5) 256 Bd, aN cI (r 6) 256 Mn, aN cI (r 7) 23040 q.1, aN cI (r 8) 23040 q.2.1]) := by
  intro l
  refine Up_of (by decide) (Nat.le_of_ble_eq_true rfl) (fun x k hq => ?_)
  have w2 := hw.2.1
  obtain ⟨hq1, hq2⟩ := id hQ
  refine v_aload_n (n := 1) k dX5_bucket__0 rfl rfl ?_
  refine v_iconst (n := 2) k dX5_bucket__1 rfl ?_
  refine v_put (n := 5) k ciX5 0 0 (by decide) fl_X5_1 rfl rfl (rfl) (rfl) (Nat.le_of_ble_eq_true rfl) dX5_bucket__2 rfl ?_
  refine v_aload_n (n := 6) k dX5_bucket__5 rfl rfl ?_
  refine v_iload_n (n := 7) k dX5_bucket__6 rfl rfl ?_
  refine v_rdVi (n := 10) k [0] 0 (z_X5_isPage hP w2) miX5_isPage ml_X5_208 (by decide) (by decide) rfl (by decide) rfl rfl rfl rfl (Nat.le_of_ble_eq_true rfl) ⟨Nat.zero_le _, Nat.zero_le _⟩ dX5_bucket__7 rfl ?_
  refine v_if_eq (n := 13) (t := 22) k (bI_in _) dX5_bucket__10 (by decide) rfl (fun c_10 => ?_) (fun c_10 => ?_)
  · have hno : ¬ (0 ≤ P ∧ P < (pg : Int)) := fun h => by
      rw [bI_t (show pgF pg P = true from decide_eq_true h)] at c_10
      exact absurd c_10 (by decide)
    have hkf : ¬ kdF C pg lg P = 5 := by rw [kdF, if_neg hno]; decide
    refine v_iconst (n := 23) k dX5_bucket__22 rfl ?_
    refine v_iretU k hq ?_ rfl dX5_bucket__23
    exact ⟨by rw [bktF, if_neg hkf], rfl⟩
  · have hyes : 0 ≤ P ∧ P < (pg : Int) := by
      have h9 : pgF pg P = true := by
        cases h8 : pgF pg P with
        | true => rfl
        | false => exact absurd (bI_f h8) c_10
      exact of_decide_eq_true h9
    have hpe : P = ((P.toNat : Nat) : Int) := by omega
    have hpl : P.toNat < pg := by omega
    refine v_aload_n (n := 14) k dX5_bucket__13 rfl rfl ?_
    refine v_get (n := 17) k ciX5 0 12 (by decide) fl_X5_28 rfl rfl dX5_bucket__14 rfl ?_
    refine v_iload_n (n := 18) k dX5_bucket__17 rfl rfl ?_
    refine v_zaldN (n := 19) k 1 3 (P.toNat) rfl rfl (by omega) (by omega) (by omega) dX5_bucket__18 rfl ?_
    refine v_if_ne (n := 22) (t := 24) k (bI_in _) dX5_bucket__19 (by decide) rfl (fun c_19 => ?_) (fun c_19 => ?_)
    · have h5 : kdN C lg P.toNat = 5 := by
        have h8 := hR.2.2.1 P.toNat (by omega)
        cases h9 : Ib P.toNat with
        | false => exact absurd (bI_f h9) c_19
        | true => rw [h9] at h8; exact beq_iff_eq.mp h8.symm
      have hkf : kdF C pg lg P = 5 := by rw [kdF, if_pos hyes, h5]; rfl
      obtain ⟨hb1, hb2, hb3⟩ := hR.2.2.2.1 P.toNat (by omega) h5
      have hwb := (hE.wb h5).2
      refine v_iload_n (n := 25) k dX5_bucket__24 rfl rfl ?_
      refine v_if_ne (n := 28) (t := 37) k (⟨by omega, by omega⟩) dX5_bucket__25 (by decide) rfl (fun c_25 => ?_) (fun c_25 => ?_)
      · refine v_iload_n (n := 38) k dX5_bucket__37 rfl rfl ?_
        refine v_iconst (n := 39) k dX5_bucket__38 rfl ?_
        refine v_icmp_ne (n := 42) (t := 51) k (⟨by omega, by omega⟩) (⟨by omega, by omega⟩) dX5_bucket__39 (by decide) rfl (fun c_39 => ?_) (fun c_39 => ?_)
        · refine v_iload_n (n := 52) k dX5_bucket__51 rfl rfl ?_
          refine v_iconst (n := 53) k dX5_bucket__52 rfl ?_
          refine v_icmp_ne (n := 56) (t := 64) k (⟨by omega, by omega⟩) (⟨by omega, by omega⟩) dX5_bucket__53 (by decide) rfl (fun c_53 => ?_) (fun c_53 => ?_)
          · refine v_iconst (n := 65) k dX5_bucket__64 rfl ?_
            refine v_iretU k hq ?_ rfl dX5_bucket__65
            exact ⟨by rw [bktF, if_pos hkf, if_neg (by omega), if_neg (by omega), if_neg (by omega)], rfl⟩
          · refine v_aload_n (n := 57) k dX5_bucket__56 rfl rfl ?_
            refine v_iload_n (n := 58) k dX5_bucket__57 rfl rfl ?_
            refine v_rdVi (n := 61) k [0, 3, 4, 5] 0 (z_X5_bytesOf (p := P.toNat) hpe (by omega) (hR.2.2.2.2.2.2.2.1 _) hR.2.2.2.2.2.2.2.2) miX5_bytesOf ml_X5_117 (by decide) (by decide) rfl (by decide) rfl rfl rfl rfl (Nat.le_of_ble_eq_true rfl) ⟨Nat.zero_le _, Nat.zero_le _⟩ dX5_bucket__58 rfl ?_
            refine v_goto (t := 65) k dX5_bucket__61 (by decide) ?_
            refine v_iretU k hq ?_ rfl dX5_bucket__65
            exact ⟨by rw [bktF, if_pos hkf, if_neg (by omega), if_neg (by omega), if_pos (by omega), RB.bL ⟨hb1, hb2, hb3⟩ hwb], rfl⟩
        · refine v_aload_n (n := 43) k dX5_bucket__42 rfl rfl ?_
          refine v_get (n := 46) k ciX5 0 14 (by decide) fl_X5_35 rfl rfl dX5_bucket__43 rfl ?_
          refine v_iload_n (n := 47) k dX5_bucket__46 rfl rfl ?_
          refine v_ialdN (n := 48) k 3 0 (P.toNat) rfl rfl (by omega) (by omega) (by omega) dX5_bucket__47 rfl ?_
          refine v_goto (t := 65) k dX5_bucket__48 (by decide) ?_
          refine v_iretU k hq ?_ rfl dX5_bucket__65
          exact ⟨by rw [bktF, if_pos hkf, if_neg (by omega), if_pos (by omega), hb2], rfl⟩
      · refine v_aload_n (n := 29) k dX5_bucket__28 rfl rfl ?_
        refine v_get (n := 32) k ciX5 0 13 (by decide) fl_X5_32 rfl rfl dX5_bucket__29 rfl ?_
        refine v_iload_n (n := 33) k dX5_bucket__32 rfl rfl ?_
        refine v_ialdN (n := 34) k 2 0 (P.toNat) rfl rfl (by omega) (by omega) (by omega) dX5_bucket__33 rfl ?_
        refine v_goto (t := 65) k dX5_bucket__34 (by decide) ?_
        refine v_iretU k hq ?_ rfl dX5_bucket__65
        exact ⟨by rw [bktF, if_pos hkf, if_pos (by omega), hb1], rfl⟩
    · have hkf : ¬ kdF C pg lg P = 5 := by
        have h8 := hR.2.2.1 P.toNat (by omega)
        cases h7 : Ib P.toNat with
        | true => rw [bI_t h7] at c_19; exact absurd c_19 (by decide)
        | false =>
          rw [h7] at h8
          rw [kdF, if_pos hyes]
          intro h
          have h6 : kdN C lg P.toNat = 5 := by omega
          rw [h6] at h8; exact absurd h8 (by decide)
      refine v_iconst (n := 23) k dX5_bucket__22 rfl ?_
      refine v_iretU k hq ?_ rfl dX5_bucket__23
      exact ⟨by rw [bktF, if_neg hkf], rfl⟩
set_option maxHeartbeats 1000000 in
set_option maxRecDepth 20000 in
theorem z_X5_record {D : va_G} {cI cB cJ cZ : ClassId} {hm : Nat} {r : Nat → Nat} {th : Int} {pg lg : Nat} {wt al dn : Int} {tp an ch : Nat} {C : Nat → Nat} {Mn : Nat → Nat} {Ib : Nat → Bool} {q : RQ} {Dr En Bd : Nat → Nat} {P R Q J : Int} (hP : in32 P) (hRr : in32 R) (hQ : in32 Q) (hJ : in32 J) (hR : RM C lg Dr En Ib Bd Mn q) (hE : EB C pg lg) (hw : DW C pg lg) : ∀ l, Up l yX5_record cX5_record 6 (some .int) ({ frames := 1, cells := 0, slots := 0, locals := 22 }) D (TY cI cB cJ cZ) [.ref hm, .int (iI P), .int (iI R), .int (iI Q), .int (iI J)] [oM hm r th pg lg wt al dn (C 0) (pF (C 0)) tp an ch, aZ cZ (r 4) 256 Ib, aN cI (r 6) 256 Mn, aN cI (r 7) 23040 q.1, aN cI (r 8) 23040 q.2.1, aL cJ (r 9) 46080 q.2.2.1, aL cJ (r 10) 92160 q.2.2.2] (fun v w1 => v = some (.int (iI (recF C pg lg P R Q J))) ∧ w1 = [oM hm r 0 pg lg wt al dn (C 0) (pF (C 0)) tp an ch, aZ cZ (r 4) 256 Ib, aN cI (r 6) 256 Mn, aN cI (r 7) 23040 q.1, aN cI (r 8) 23040 q.2.1, aL cJ (r 9) 46080 q.2.2.1, aL cJ (r 10) 92160 q.2.2.2]) := by
  intro l
  refine Up_of (by decide) (Nat.le_of_ble_eq_true rfl) (fun x k hq => ?_)
  have w2 := hw.2.1
  obtain ⟨hq1, hq2⟩ := id hQ
  obtain ⟨hr1, hr2⟩ := id hRr
  obtain ⟨hj1, hj2⟩ := id hJ
  refine v_aload_n (n := 1) k dX5_record_0 rfl rfl ?_
  refine v_iconst (n := 2) k dX5_record_1 rfl ?_
  refine v_put (n := 5) k ciX5 0 0 (by decide) fl_X5_1 rfl rfl (rfl) (rfl) (Nat.le_of_ble_eq_true rfl) dX5_record_2 rfl ?_
  refine v_aload_n (n := 6) k dX5_record_5 rfl rfl ?_
  refine v_iload_n (n := 7) k dX5_record_6 rfl rfl ?_
  refine v_rdVi (n := 10) k [0] 0 (z_X5_isPage hP w2) miX5_isPage ml_X5_208 (by decide) (by decide) rfl (by decide) rfl rfl rfl rfl (Nat.le_of_ble_eq_true rfl) ⟨Nat.zero_le _, Nat.zero_le _⟩ dX5_record_7 rfl ?_
  refine v_if_eq (n := 13) (t := 50) k (bI_in _) dX5_record_10 (by decide) rfl (fun c_10 => ?_) (fun c_10 => ?_)
  · have hno : ¬ (0 ≤ P ∧ P < (pg : Int)) := fun h => by
      rw [bI_t (show pgF pg P = true from decide_eq_true h)] at c_10
      exact absurd c_10 (by decide)
    have hkf : ¬ kdF C pg lg P = 5 := by rw [kdF, if_neg hno]; decide
    refine v_iconst (n := 51) k dX5_record_50 rfl ?_
    refine v_iretU k hq ?_ rfl dX5_record_51
    exact ⟨by rw [recF, if_neg (fun h => hkf h.1)], rfl⟩
  · have hyes : 0 ≤ P ∧ P < (pg : Int) := by
      have h9 : pgF pg P = true := by
        cases h8 : pgF pg P with
        | true => rfl
        | false => exact absurd (bI_f h8) c_10
      exact of_decide_eq_true h9
    have hpe : P = ((P.toNat : Nat) : Int) := by omega
    have hpl : P.toNat < pg := by omega
    refine v_aload_n (n := 14) k dX5_record_13 rfl rfl ?_
    refine v_get (n := 17) k ciX5 0 12 (by decide) fl_X5_28 rfl rfl dX5_record_14 rfl ?_
    refine v_iload_n (n := 18) k dX5_record_17 rfl rfl ?_
    refine v_zaldN (n := 19) k 1 3 (P.toNat) rfl rfl (by omega) (by omega) (by omega) dX5_record_18 rfl ?_
    refine v_if_eq (n := 22) (t := 50) k (bI_in _) dX5_record_19 (by decide) rfl (fun c_19 => ?_) (fun c_19 => ?_)
    · have hkf : ¬ kdF C pg lg P = 5 := by
        have h8 := hR.2.2.1 P.toNat (by omega)
        cases h7 : Ib P.toNat with
        | true => rw [bI_t h7] at c_19; exact absurd c_19 (by decide)
        | false =>
          rw [h7] at h8
          rw [kdF, if_pos hyes]
          intro h
          have h6 : kdN C lg P.toNat = 5 := by omega
          rw [h6] at h8; exact absurd h8 (by decide)
      refine v_iconst (n := 51) k dX5_record_50 rfl ?_
      refine v_iretU k hq ?_ rfl dX5_record_51
      exact ⟨by rw [recF, if_neg (fun h => hkf h.1)], rfl⟩
    · have h5 : kdN C lg P.toNat = 5 := by
        have h8 := hR.2.2.1 P.toNat (by omega)
        cases h9 : Ib P.toNat with
        | false => exact absurd (bI_f h9) c_19
        | true => rw [h9] at h8; exact beq_iff_eq.mp h8.symm
      have hkf : kdF C pg lg P = 5 := by rw [kdF, if_pos hyes, h5]; rfl
      obtain ⟨hb1, hb2, hb3⟩ := hR.2.2.2.1 P.toNat (by omega) h5
      have hwb := (hE.wb h5).2
      have hm84 := hR.2.2.2.2.2.2.2.1 P.toNat
      refine v_iload_n (n := 23) k dX5_record_22 rfl rfl ?_
      refine v_if_lt (n := 26) (t := 50) k (⟨by omega, by omega⟩) dX5_record_23 (by decide) rfl (fun c_23 => ?_) (fun c_23 => ?_)
      · refine v_iconst (n := 51) k dX5_record_50 rfl ?_
        refine v_iretU k hq ?_ rfl dX5_record_51
        exact ⟨by rw [recF, if_neg (by omega)], rfl⟩
      · refine v_iload_n (n := 27) k dX5_record_26 rfl rfl ?_
        refine v_aload_n (n := 28) k dX5_record_27 rfl rfl ?_
        refine v_get (n := 31) k ciX5 0 14 (by decide) fl_X5_35 rfl rfl dX5_record_28 rfl ?_
        refine v_iload_n (n := 32) k dX5_record_31 rfl rfl ?_
        refine v_ialdN (n := 33) k 2 0 (P.toNat) rfl rfl (by omega) (by omega) (by omega) dX5_record_32 rfl ?_
        refine v_icmp_ge (n := 36) (t := 50) k (⟨by omega, by omega⟩) (⟨by omega, by omega⟩) dX5_record_33 (by decide) rfl (fun c_33 => ?_) (fun c_33 => ?_)
        · refine v_iconst (n := 51) k dX5_record_50 rfl ?_
          refine v_iretU k hq ?_ rfl dX5_record_51
          exact ⟨by rw [recF, if_neg (by omega)], rfl⟩
        · refine v_iload (n := 38) k dX5_record_36 rfl rfl ?_
          refine v_if_lt (n := 41) (t := 50) k (⟨by omega, by omega⟩) dX5_record_38 (by decide) rfl (fun c_38 => ?_) (fun c_38 => ?_)
          · refine v_iconst (n := 51) k dX5_record_50 rfl ?_
            refine v_iretU k hq ?_ rfl dX5_record_51
            refine ⟨?_, rfl⟩
            have hm9 := hb2
            rw [recF]
            by_cases hc9 : kdF C pg lg P = 5 ∧ 0 ≤ R ∧ R < ((pb C P.toNat 1 : Nat) : Int)
            · rw [if_pos hc9]
              by_cases q0 : Q = 0
              · rw [if_pos q0, if_neg (by omega)]
              · rw [if_neg q0]
                by_cases q1 : Q = 1
                · rw [if_pos q1, if_neg (by omega)]
                · rw [if_neg q1]
            · rw [if_neg hc9]
          · refine v_iload_n (n := 42) k dX5_record_41 rfl rfl ?_
            refine v_if_lt (n := 45) (t := 50) k (⟨by omega, by omega⟩) dX5_record_42 (by decide) rfl (fun c_42 => ?_) (fun c_42 => ?_)
            · refine v_iconst (n := 51) k dX5_record_50 rfl ?_
              refine v_iretU k hq ?_ rfl dX5_record_51
              refine ⟨?_, rfl⟩
              have hm9 := hb2
              rw [recF]
              by_cases hc9 : kdF C pg lg P = 5 ∧ 0 ≤ R ∧ R < ((pb C P.toNat 1 : Nat) : Int)
              · rw [if_pos hc9]
                by_cases q0 : Q = 0
                · rw [if_pos q0, if_neg (by omega)]
                · rw [if_neg q0]
                  by_cases q1 : Q = 1
                  · rw [if_pos q1, if_neg (by omega)]
                  · rw [if_neg q1]
              · rw [if_neg hc9]
            · refine v_iload_n (n := 46) k dX5_record_45 rfl rfl ?_
              refine v_iconst (n := 47) k dX5_record_46 rfl ?_
              refine v_icmp_le (n := 50) (t := 52) k (⟨by omega, by omega⟩) (⟨by omega, by omega⟩) dX5_record_47 (by decide) rfl (fun c_47 => ?_) (fun c_47 => ?_)
              · have hqb := hR.2.2.2.2.2.2.2.2 (90 * P.toNat + R.toNat)
                obtain ⟨hz1, hz2, hz3, hz4⟩ := rec_eq (hb3 R.toNat (by omega))
                have hcond : kdF C pg lg P = 5 ∧ 0 ≤ R ∧ R < ((pb C P.toNat 1 : Nat) : Int) := ⟨hkf, by omega, by omega⟩
                refine v_bipush (n := 54) k dX5_record_52 (by decide) rfl ?_
                refine v_iload_n (n := 55) k dX5_record_54 rfl rfl ?_
                refine v_imul (n := 56) k dX5_record_55 rfl ?_
                refine v_iload_n (n := 57) k dX5_record_56 rfl rfl ?_
                refine v_iadd (n := 58) k dX5_record_57 rfl ?_
                refine v_istore (n := 60) k dX5_record_58 rfl (by decide) rfl rfl ?_
                refine v_iload_n (n := 61) k dX5_record_60 rfl rfl ?_
                refine v_if_ne (n := 64) (t := 89) k (⟨by omega, by omega⟩) dX5_record_61 (by decide) rfl (fun c_61 => ?_) (fun c_61 => ?_)
                · refine v_iload (n := 91) k dX5_record_89 rfl rfl ?_
                  refine v_aload_n (n := 92) k dX5_record_91 rfl rfl ?_
                  refine v_get (n := 95) k ciX5 0 16 (by decide) fl_X5_41 rfl rfl dX5_record_92 rfl ?_
                  refine v_iload (n := 97) k dX5_record_95 rfl rfl ?_
                  refine v_ialdN (n := 98) k 4 0 (90 * P.toNat + R.toNat) rfl rfl (by omega) (by omega) (by omega) dX5_record_97 rfl ?_
                  refine v_icmp_ge (n := 101) (t := 112) k (⟨by omega, by omega⟩) (⟨by omega, by omega⟩) dX5_record_98 (by decide) rfl (fun c_98 => ?_) (fun c_98 => ?_)
                  · refine v_iconst (n := 113) k dX5_record_112 rfl ?_
                    refine v_iretU k hq ?_ rfl dX5_record_113
                    exact ⟨by rw [recF, if_pos hcond, if_neg (by omega), if_pos (by omega), if_neg (by omega)], rfl⟩
                  · refine v_aload_n (n := 102) k dX5_record_101 rfl rfl ?_
                    refine v_iload (n := 104) k dX5_record_102 rfl rfl ?_
                    refine v_iload (n := 106) k dX5_record_104 rfl rfl ?_
                    refine v_rdVi (n := 109) k [0, 6] 0 (z_X5_valueByte (u := 90 * P.toNat + R.toNat) (j := J.toNat) (by omega) (by omega) (by omega) (by omega)) miX5_valueByte ml_X5_121 (by decide) (by decide) rfl (by decide) rfl rfl rfl rfl (Nat.le_of_ble_eq_true rfl) ⟨Nat.zero_le _, Nat.zero_le _⟩ dX5_record_106 rfl ?_
                    refine v_goto (t := 113) k dX5_record_109 (by decide) ?_
                    refine v_iretU k hq ?_ rfl dX5_record_113
                    exact ⟨by rw [recF, if_pos hcond, if_neg (by omega), if_pos (by omega), if_pos ⟨by omega, by omega⟩, hz4 _ (by omega)], rfl⟩
                · refine v_iload (n := 66) k dX5_record_64 rfl rfl ?_
                  refine v_aload_n (n := 67) k dX5_record_66 rfl rfl ?_
                  refine v_get (n := 70) k ciX5 0 15 (by decide) fl_X5_38 rfl rfl dX5_record_67 rfl ?_
                  refine v_iload (n := 72) k dX5_record_70 rfl rfl ?_
                  refine v_ialdN (n := 73) k 3 0 (90 * P.toNat + R.toNat) rfl rfl (by omega) (by omega) (by omega) dX5_record_72 rfl ?_
                  refine v_icmp_ge (n := 76) (t := 87) k (⟨by omega, by omega⟩) (⟨by omega, by omega⟩) dX5_record_73 (by decide) rfl (fun c_73 => ?_) (fun c_73 => ?_)
                  · refine v_iconst (n := 88) k dX5_record_87 rfl ?_
                    refine v_iretU k hq ?_ rfl dX5_record_88
                    exact ⟨by rw [recF, if_pos hcond, if_pos (by omega), if_neg (by omega)], rfl⟩
                  · refine v_aload_n (n := 77) k dX5_record_76 rfl rfl ?_
                    refine v_iload (n := 79) k dX5_record_77 rfl rfl ?_
                    refine v_iload (n := 81) k dX5_record_79 rfl rfl ?_
                    refine v_rdVi (n := 84) k [0, 5] 0 (z_X5_keyByte (u := 90 * P.toNat + R.toNat) (j := J.toNat) (by omega) (by omega) (by omega) (by omega)) miX5_keyByte ml_X5_111 (by decide) (by decide) rfl (by decide) rfl rfl rfl rfl (Nat.le_of_ble_eq_true rfl) ⟨Nat.zero_le _, Nat.zero_le _⟩ dX5_record_81 rfl ?_
                    refine v_goto (t := 88) k dX5_record_84 (by decide) ?_
                    refine v_iretU k hq ?_ rfl dX5_record_88
                    exact ⟨by rw [recF, if_pos hcond, if_pos (by omega), if_pos ⟨by omega, by omega⟩, hz3 _ (by omega)], rfl⟩
              · refine v_iconst (n := 51) k dX5_record_50 rfl ?_
                refine v_iretU k hq ?_ rfl dX5_record_51
                refine ⟨?_, rfl⟩
                have hm9 := hb2
                rw [recF]
                by_cases hc9 : kdF C pg lg P = 5 ∧ 0 ≤ R ∧ R < ((pb C P.toNat 1 : Nat) : Int)
                · rw [if_pos hc9]
                  by_cases q0 : Q = 0
                  · rw [if_pos q0, if_neg (by omega)]
                  · rw [if_neg q0]
                    by_cases q1 : Q = 1
                    · rw [if_pos q1, if_neg (by omega)]
                    · rw [if_neg q1]
                · rw [if_neg hc9]
set_option maxHeartbeats 1000000 in
set_option maxRecDepth 20000 in
theorem lp_X5_manyOf {D : va_G} {cI cB cJ cZ : ClassId} {x : Kx} {hm : Nat} {r : Nat → Nat} {th : Int} {pg lg : Nat} {wt al dn : Int} {tp an ch : Nat} {C : Nat → Nat} {Dr : Nat → Nat} {Ib : Nat → Bool} {N : Int} {kd : Nat} (k : Kf x cX5_manyOf 4 yX5_manyOf.cls (some .int) D (TY cI cB cJ cZ) ({ frames := 2, cells := 0, slots := 0, locals := 43 })) (hq : isR x (fun v => v = some (.int (iI ((cntK C lg kd pg : Nat) : Int))))) (hN : N = (kd : Int)) (hkd : kd ≤ 5) (hDr : ∀ k, k < pF (C 0) → Dr k = C (1 + k)) (hD : ∀ j, Dr j < 256) (hIb : ∀ p, p < 256 → Ib p = (kdN C lg p == 5)) (hw : DW C pg lg) : ∀ (m : Nat) (i : Nat) (S I : Int), pg < i + m → i ≤ pg → I = (i : Int) → S = ((cntK C lg kd i : Nat) : Int) → Vw x 4 (fun _ => True) D false 0 0 [oM hm r th pg lg wt al dn (C 0) (pF (C 0)) tp an ch, aZ cZ (r 4) 256 Ib, aN cI (r 1) 256 Dr] 4 [(0, .ref hm), (1, .int (iI N)), (2, .int (iI S)), (3, .int (iI I))] [] := by
  intro m
  induction m with
  | zero => intro i S I hm9 hi e1 e2; omega
  | succ m ih =>
    intro i S I hm9 hi e1 e2
    obtain ⟨w1, w2, w3, w4, w5, w6, w7⟩ := id hw
    have hk5 := kdN_le C lg i
    have hc9 := cntK_le C lg kd i
    refine v_iload_n (n := 5) k dX5_manyOf_4 rfl rfl ?_
    refine v_aload_n (n := 6) k dX5_manyOf_5 rfl rfl ?_
    refine v_get (n := 9) k ciX5 0 2 (by decide) fl_X5_69 rfl rfl dX5_manyOf_6 rfl ?_
    refine v_icmp_ge (n := 12) (t := 35) k (⟨by omega, by omega⟩) (⟨by omega, by omega⟩) dX5_manyOf_9 (by decide) rfl (fun c_9 => ?_) (fun c_9 => ?_)
    · refine v_iload_n (n := 36) k dX5_manyOf_35 rfl rfl ?_
      refine v_iretR k hq ?_ dX5_manyOf_36
      rw [e2, show i = pg by omega]
    · refine v_iload_n (n := 13) k dX5_manyOf_12 rfl rfl ?_
      refine v_aload_n (n := 14) k dX5_manyOf_13 rfl rfl ?_
      refine v_iload_n (n := 15) k dX5_manyOf_14 rfl rfl ?_
      refine v_rdVi (n := 18) k [0, 1, 2] 0 (z_X5_kindOf (p := i) e1 (by omega) hDr hD hIb hw) miX5_kindOf ml_X5_211 (by decide) (by decide) rfl (by decide) rfl rfl rfl rfl (Nat.le_of_ble_eq_true rfl) ⟨Nat.zero_le _, Nat.zero_le _⟩ dX5_manyOf_15 rfl ?_
      refine v_iload_n (n := 19) k dX5_manyOf_18 rfl rfl ?_
      refine v_icmp_ne (n := 22) (t := 26) k (⟨by omega, by omega⟩) (⟨by omega, by omega⟩) dX5_manyOf_19 (by decide) rfl (fun c_19 => ?_) (fun c_19 => ?_)
      · refine v_iconst (n := 27) k dX5_manyOf_26 rfl ?_
        refine v_iadd (n := 28) k dX5_manyOf_27 rfl ?_
        refine v_istore_n (n := 29) k dX5_manyOf_28 rfl (by decide) rfl rfl ?_
        refine v_iinc (n := 32) k dX5_manyOf_29 rfl (by decide) rfl rfl rfl ?_
        refine v_goto (t := 4) k dX5_manyOf_32 (by decide) ?_
        exact ih (i + 1) _ _ (by omega) (by omega) (by omega) (by
          show _ = ((cntK C lg kd i + (if kdN C lg i = kd then 1 else 0) : Nat) : Int)
          rw [if_neg (by omega)]
          omega)
      · refine v_iconst (n := 23) k dX5_manyOf_22 rfl ?_
        refine v_goto (t := 27) k dX5_manyOf_23 (by decide) ?_
        refine v_iadd (n := 28) k dX5_manyOf_27 rfl ?_
        refine v_istore_n (n := 29) k dX5_manyOf_28 rfl (by decide) rfl rfl ?_
        refine v_iinc (n := 32) k dX5_manyOf_29 rfl (by decide) rfl rfl rfl ?_
        refine v_goto (t := 4) k dX5_manyOf_32 (by decide) ?_
        exact ih (i + 1) _ _ (by omega) (by omega) (by omega) (by
          show _ = ((cntK C lg kd i + (if kdN C lg i = kd then 1 else 0) : Nat) : Int)
          rw [if_pos (by omega)]
          omega)
set_option maxHeartbeats 1000000 in
set_option maxRecDepth 20000 in
theorem z_X5_manyOf {D : va_G} {cI cB cJ cZ : ClassId} {hm : Nat} {r : Nat → Nat} {th : Int} {pg lg : Nat} {wt al dn : Int} {tp an ch : Nat} {C : Nat → Nat} {Dr : Nat → Nat} {Ib : Nat → Bool} {N : Int} {kd : Nat} (hN : N = (kd : Int)) (hkd : kd ≤ 5) (hDr : ∀ k, k < pF (C 0) → Dr k = C (1 + k)) (hD : ∀ j, Dr j < 256) (hIb : ∀ p, p < 256 → Ib p = (kdN C lg p == 5)) (hw : DW C pg lg) : ∀ l, Rd l yX5_manyOf cX5_manyOf 4 (some .int) ({ frames := 2, cells := 0, slots := 0, locals := 43 }) D (TY cI cB cJ cZ) [.ref hm, .int (iI N)] [oM hm r th pg lg wt al dn (C 0) (pF (C 0)) tp an ch, aZ cZ (r 4) 256 Ib, aN cI (r 1) 256 Dr] (fun v => v = some (.int (iI ((cntK C lg kd pg : Nat) : Int)))) := by
  intro l
  refine Rd_of (by decide) (Nat.le_of_ble_eq_true rfl) (fun x k hq => ?_)
  refine v_iconst (n := 1) k dX5_manyOf_0 rfl ?_
  refine v_istore_n (n := 2) k dX5_manyOf_1 rfl (by decide) rfl rfl ?_
  refine v_iconst (n := 3) k dX5_manyOf_2 rfl ?_
  refine v_istore_n (n := 4) k dX5_manyOf_3 rfl (by decide) rfl rfl ?_
  exact lp_X5_manyOf k hq hN hkd hDr hD hIb hw (pg + 1) 0 _ _ (by omega) (by omega) rfl rfl
theorem cntR_le {C : Nat → Nat} (hC : ∀ j, C j < 256) (lg : Nat) : ∀ n, cntR C lg n ≤ 256 * n := by
  intro n
  induction n with
  | zero => exact Nat.le_refl _
  | succ n ih =>
    have : pb C n 1 < 256 := hC _
    show cntR C lg n + (if kdN C lg n = 5 then pb C n 1 else 0) ≤ _
    split <;> omega
set_option maxHeartbeats 1000000 in
set_option maxRecDepth 20000 in
theorem lp_X5_look {D : va_G} {cI cB cJ cZ : ClassId} {x : Kx} {hm : Nat} {r : Nat → Nat} {th : Int} {pg lg : Nat} {wt al dn : Int} {tp an ch : Nat} {C : Nat → Nat} {Cm : Nat → Nat} {Dr : Nat → Nat} {Mn : Nat → Nat} {Ib : Nat → Bool} {En Bd : Nat → Nat} {q : RQ} {Q : Int} (k : Kf x cX5_look 4 yX5_look.cls (some .int) D (TY cI cB cJ cZ) ({ frames := 3, cells := 0, slots := 0, locals := 66 })) {A : Nat → Prop} (hR : RM C lg Dr En Ib Bd Mn q) (hE : EB C pg lg) (hw : DW C pg lg) (hk9 : Vw x 4 A D true 0 0 [oM hm r th pg lg wt al dn (C 0) (pF (C 0)) tp an ch, aB cB (r 0) 65536 Cm, aZ cZ (r 4) 256 Ib, aN cI (r 1) 256 Dr, aN cI (r 6) 256 Mn] 45 [(0, .ref hm), (1, .int (iI Q)), (2, .int (iI ((cntR C lg pg : Nat) : Int))), (3, .int (iI (pg : Int)))] []) : ∀ (m : Nat) (i : Nat) (S I : Int), pg < i + m → i ≤ pg → I = (i : Int) → S = ((cntR C lg i : Nat) : Int) → Vw x 4 A D true 0 0 [oM hm r th pg lg wt al dn (C 0) (pF (C 0)) tp an ch, aB cB (r 0) 65536 Cm, aZ cZ (r 4) 256 Ib, aN cI (r 1) 256 Dr, aN cI (r 6) 256 Mn] 9 [(0, .ref hm), (1, .int (iI Q)), (2, .int (iI S)), (3, .int (iI I))] [] := by
  intro m
  induction m with
  | zero => intro i S I hm9 hi e1 e2; omega
  | succ m ih =>
    intro i S I hm9 hi e1 e2
    obtain ⟨w1, w2, w3, w4, w5, w6, w7⟩ := id hw
    have hc9 := cntR_le w3 lg i
    refine v_iload_n (n := 10) k dX5_look_9 rfl rfl ?_
    refine v_aload_n (n := 11) k dX5_look_10 rfl rfl ?_
    refine v_get (n := 14) k ciX5 0 2 (by decide) fl_X5_69 rfl rfl dX5_look_11 rfl ?_
    refine v_icmp_ge (n := 17) (t := 45) k (⟨by omega, by omega⟩) (⟨by omega, by omega⟩) dX5_look_14 (by decide) rfl (fun c_14 => ?_) (fun c_14 => ?_)
    · have e8 : i = pg := by omega
      rw [e2, show I = (pg : Int) by omega, e8]
      exact hk9
    · have h8 := hR.2.2.1 i (by omega)
      have hm84 := hR.2.2.2.2.2.2.2.1 i
      refine v_iload_n (n := 18) k dX5_look_17 rfl rfl ?_
      refine v_aload_n (n := 19) k dX5_look_18 rfl rfl ?_
      refine v_get (n := 22) k ciX5 0 12 (by decide) fl_X5_28 rfl rfl dX5_look_19 rfl ?_
      refine v_iload_n (n := 23) k dX5_look_22 rfl rfl ?_
      refine v_zaldN (n := 24) k 2 3 (i) rfl rfl (by omega) (by omega) (by omega) dX5_look_23 rfl ?_
      refine v_if_eq (n := 27) (t := 36) k (bI_in _) dX5_look_24 (by decide) rfl (fun c_24 => ?_) (fun c_24 => ?_)
      · have h5 : ¬ kdN C lg i = 5 := by
          cases h9 : Ib i with
          | true => rw [bI_t h9] at c_24; exact absurd c_24 (by decide)
          | false => rw [h9] at h8; intro h; rw [h] at h8; exact absurd h8 (by decide)
        refine v_iconst (n := 37) k dX5_look_36 rfl ?_
        refine v_iadd (n := 38) k dX5_look_37 rfl ?_
        refine v_istore_n (n := 39) k dX5_look_38 rfl (by decide) rfl rfl ?_
        refine v_iinc (n := 42) k dX5_look_39 rfl (by decide) rfl rfl rfl ?_
        refine v_goto (t := 9) k dX5_look_42 (by decide) ?_
        exact ih (i + 1) _ _ (by omega) (by omega) (by omega) (by
          show _ = ((cntR C lg i + (if kdN C lg i = 5 then pb C i 1 else 0) : Nat) : Int)
          rw [if_neg h5]
          omega)
      · have h5 : kdN C lg i = 5 := by
          cases h9 : Ib i with
          | false => exact absurd (bI_f h9) c_24
          | true => rw [h9] at h8; exact beq_iff_eq.mp h8.symm
        have hmn := (hR.2.2.2.1 i (by omega) h5).2.1
        refine v_aload_n (n := 28) k dX5_look_27 rfl rfl ?_
        refine v_get (n := 31) k ciX5 0 14 (by decide) fl_X5_35 rfl rfl dX5_look_28 rfl ?_
        refine v_iload_n (n := 32) k dX5_look_31 rfl rfl ?_
        refine v_ialdN (n := 33) k 4 0 (i) rfl rfl (by omega) (by omega) (by omega) dX5_look_32 rfl ?_
        refine v_goto (t := 37) k dX5_look_33 (by decide) ?_
        refine v_iadd (n := 38) k dX5_look_37 rfl ?_
        refine v_istore_n (n := 39) k dX5_look_38 rfl (by decide) rfl rfl ?_
        refine v_iinc (n := 42) k dX5_look_39 rfl (by decide) rfl rfl rfl ?_
        refine v_goto (t := 9) k dX5_look_42 (by decide) ?_
        exact ih (i + 1) _ _ (by omega) (by omega) (by omega) (by
          show _ = ((cntR C lg i + (if kdN C lg i = 5 then pb C i 1 else 0) : Nat) : Int)
          rw [if_pos h5]
          omega)
set_option maxHeartbeats 1000000 in
set_option maxRecDepth 20000 in
theorem z_X5_look {D : va_G} {cI cB cJ cZ : ClassId} {hm : Nat} {r : Nat → Nat} {th : Int} {pg lg : Nat} {wt al dn : Int} {tp an ch : Nat} {C : Nat → Nat} {Cm : Nat → Nat} {Dr : Nat → Nat} {Mn : Nat → Nat} {Ib : Nat → Bool} {En Bd : Nat → Nat} {q : RQ} {Q : Int} (hQ : in32 Q) (hdn : dn = 0 ∨ (dn = 1 ∧ al = 0)) (hA : AGP pg Cm C) (hR : RM C lg Dr En Ib Bd Mn q) (hE : EB C pg lg) (hw : DW C pg lg) : ∀ l, Up l yX5_look cX5_look 4 (some .int) ({ frames := 3, cells := 0, slots := 0, locals := 66 }) D (TY cI cB cJ cZ) [.ref hm, .int (iI Q)] [oM hm r th pg lg wt al dn (C 0) (pF (C 0)) tp an ch, aB cB (r 0) 65536 Cm, aZ cZ (r 4) 256 Ib, aN cI (r 1) 256 Dr, aN cI (r 6) 256 Mn] (fun v w1 => v = some (.int (iI (lokF C pg lg wt al dn tp Q))) ∧ w1 = [oM hm r 0 pg lg wt al dn (C 0) (pF (C 0)) tp an ch, aB cB (r 0) 65536 Cm, aZ cZ (r 4) 256 Ib, aN cI (r 1) 256 Dr, aN cI (r 6) 256 Mn]) := by
  intro l
  refine Up_of (by decide) (Nat.le_of_ble_eq_true rfl) (fun x k hq => ?_)
  obtain ⟨w1, w2, w3, w4, w5, w6, w7⟩ := id hw
  refine v_aload_n (n := 1) k dX5_look_0 rfl rfl ?_
  refine v_iconst (n := 2) k dX5_look_1 rfl ?_
  refine v_put (n := 5) k ciX5 0 0 (by decide) fl_X5_1 rfl rfl (rfl) (rfl) (Nat.le_of_ble_eq_true rfl) dX5_look_2 rfl ?_
  refine v_iconst (n := 6) k dX5_look_5 rfl ?_
  refine v_istore_n (n := 7) k dX5_look_6 rfl (by decide) rfl rfl ?_
  refine v_iconst (n := 8) k dX5_look_7 rfl ?_
  refine v_istore_n (n := 9) k dX5_look_8 rfl (by decide) rfl rfl ?_
  refine lp_X5_look k hR hE hw ?_ (pg + 1) 0 _ _ (by omega) (by omega) rfl rfl
  refine v_iload_n (n := 46) k dX5_look_45 rfl rfl ?_
  by_cases hin : Q < 0 ∨ 10 < Q
  · refine v_tabOut (t := 179) k hQ dX5_look_46 hin (by decide) ?_
    refine v_iconst (n := 180) k dX5_look_179 rfl ?_
    refine v_iretU k hq ?_ rfl dX5_look_180
    exact ⟨by unfold lokF; rw [if_neg (by omega), if_neg (by omega), if_neg (by omega), if_neg (by omega), if_neg (by omega), if_neg (by omega), if_neg (by omega), if_neg (by omega), if_neg (by omega), if_neg (by omega), if_neg (by omega)], rfl⟩
  · obtain ⟨n, hn, hqn⟩ : ∃ n : Nat, n < 11 ∧ Q = (n : Int) := ⟨Q.toNat, by omega, by omega⟩
    subst hqn
    rcases (by omega : n = 0 ∨ n = 1 ∨ n = 2 ∨ n = 3 ∨ n = 4 ∨ n = 5 ∨ n = 6 ∨ n = 7 ∨ n = 8 ∨ n = 9 ∨ n = 10) with rfl | rfl | rfl | rfl | rfl | rfl | rfl | rfl | rfl | rfl | rfl
    · refine v_tabIn (t := 104) k hQ dX5_look_46 (by decide) (by decide) (by rfl) (by decide) ?_
      refine v_aload_n (n := 105) k dX5_look_104 rfl rfl ?_
      refine v_get (n := 108) k ciX5 0 2 (by decide) fl_X5_69 rfl rfl dX5_look_105 rfl ?_
      refine v_iretU k hq ?_ rfl dX5_look_108
      exact ⟨rfl, rfl⟩
    · refine v_tabIn (t := 109) k hQ dX5_look_46 (by decide) (by decide) (by rfl) (by decide) ?_
      refine v_aload_n (n := 110) k dX5_look_109 rfl rfl ?_
      refine v_get (n := 113) k ciX5 0 3 (by decide) fl_X5_72 rfl rfl dX5_look_110 rfl ?_
      refine v_iretU k hq ?_ rfl dX5_look_113
      exact ⟨rfl, rfl⟩
    · refine v_tabIn (t := 114) k hQ dX5_look_46 (by decide) (by decide) (by rfl) (by decide) ?_
      refine v_aload_n (n := 115) k dX5_look_114 rfl rfl ?_
      refine v_get (n := 118) k ciX5 0 7 (by decide) fl_X5_95 rfl rfl dX5_look_115 rfl ?_
      refine v_iretU k hq ?_ rfl dX5_look_118
      exact ⟨rfl, rfl⟩
    · refine v_tabIn (t := 119) k hQ dX5_look_46 (by decide) (by decide) (by rfl) (by decide) ?_
      refine v_aload_n (n := 120) k dX5_look_119 rfl rfl ?_
      refine v_iconst (n := 121) k dX5_look_120 rfl ?_
      refine v_rdVi (n := 124) k [0, 2, 3] 0 (z_X5_manyOf (kd := 5) rfl (by omega) hR.1 hR.2.2.2.2.1 hR.2.2.1 hw) miX5_manyOf ml_X5_214 (by decide) (by decide) rfl (by decide) rfl rfl rfl rfl (Nat.le_of_ble_eq_true rfl) ⟨Nat.zero_le _, Nat.zero_le _⟩ dX5_look_121 rfl ?_
      refine v_iretU k hq ?_ rfl dX5_look_124
      exact ⟨rfl, rfl⟩
    · refine v_tabIn (t := 125) k hQ dX5_look_46 (by decide) (by decide) (by rfl) (by decide) ?_
      refine v_aload_n (n := 126) k dX5_look_125 rfl rfl ?_
      refine v_iconst (n := 127) k dX5_look_126 rfl ?_
      refine v_rdVi (n := 130) k [0, 2, 3] 0 (z_X5_manyOf (kd := 0) rfl (by omega) hR.1 hR.2.2.2.2.1 hR.2.2.1 hw) miX5_manyOf ml_X5_214 (by decide) (by decide) rfl (by decide) rfl rfl rfl rfl (Nat.le_of_ble_eq_true rfl) ⟨Nat.zero_le _, Nat.zero_le _⟩ dX5_look_127 rfl ?_
      refine v_iretU k hq ?_ rfl dX5_look_130
      exact ⟨rfl, rfl⟩
    · refine v_tabIn (t := 131) k hQ dX5_look_46 (by decide) (by decide) (by rfl) (by decide) ?_
      refine v_iload_n (n := 132) k dX5_look_131 rfl rfl ?_
      refine v_iretU k hq ?_ rfl dX5_look_132
      exact ⟨rfl, rfl⟩
    · refine v_tabIn (t := 133) k hQ dX5_look_46 (by decide) (by decide) (by rfl) (by decide) ?_
      refine v_aload_n (n := 134) k dX5_look_133 rfl rfl ?_
      refine v_get (n := 137) k ciX5 0 4 (by decide) fl_X5_75 rfl rfl dX5_look_134 rfl ?_
      refine v_iretU k hq ?_ rfl dX5_look_137
      exact ⟨rfl, rfl⟩
    · refine v_tabIn (t := 138) k hQ dX5_look_46 (by decide) (by decide) (by rfl) (by decide) ?_
      refine v_aload_n (n := 139) k dX5_look_138 rfl rfl ?_
      refine v_get (n := 142) k ciX5 0 6 (by decide) fl_X5_81 rfl rfl dX5_look_139 rfl ?_
      refine v_if_eq (n := 145) (t := 149) k (⟨by omega, by omega⟩) dX5_look_142 (by decide) rfl (fun c_142 => ?_) (fun c_142 => ?_)
      · refine v_iconst (n := 150) k dX5_look_149 rfl ?_
        refine v_iretU k hq ?_ rfl dX5_look_150
        first
        | (have hd9 : dn = 0 := by omega
           exact ⟨by show _ = some (Value.int (iI dn)); rw [hd9], rfl⟩)
        | (have hd9 : dn = 1 := by omega
           exact ⟨by show _ = some (Value.int (iI dn)); rw [hd9], rfl⟩)
      · refine v_iconst (n := 146) k dX5_look_145 rfl ?_
        refine v_goto (t := 150) k dX5_look_146 (by decide) ?_
        refine v_iretU k hq ?_ rfl dX5_look_150
        first
        | (have hd9 : dn = 0 := by omega
           exact ⟨by show _ = some (Value.int (iI dn)); rw [hd9], rfl⟩)
        | (have hd9 : dn = 1 := by omega
           exact ⟨by show _ = some (Value.int (iI dn)); rw [hd9], rfl⟩)
    · refine v_tabIn (t := 151) k hQ dX5_look_46 (by decide) (by decide) (by rfl) (by decide) ?_
      refine v_aload_n (n := 152) k dX5_look_151 rfl rfl ?_
      refine v_get (n := 155) k ciX5 0 6 (by decide) fl_X5_81 rfl rfl dX5_look_152 rfl ?_
      refine v_if_eq (n := 158) (t := 162) k (⟨by omega, by omega⟩) dX5_look_155 (by decide) rfl (fun c_155 => ?_) (fun c_155 => ?_)
      · refine v_aload_n (n := 163) k dX5_look_162 rfl rfl ?_
        refine v_get (n := 166) k ciX5 0 5 (by decide) fl_X5_78 rfl rfl dX5_look_163 rfl ?_
        refine v_iretU k hq ?_ rfl dX5_look_166
        first
        | (have hd9 : al = 0 := by omega
           exact ⟨by show _ = some (Value.int (iI al)); rw [hd9], rfl⟩)
        | exact ⟨rfl, rfl⟩
      · refine v_iconst (n := 159) k dX5_look_158 rfl ?_
        refine v_goto (t := 166) k dX5_look_159 (by decide) ?_
        refine v_iretU k hq ?_ rfl dX5_look_166
        first
        | (have hd9 : al = 0 := by omega
           exact ⟨by show _ = some (Value.int (iI al)); rw [hd9], rfl⟩)
        | exact ⟨rfl, rfl⟩
    · refine v_tabIn (t := 167) k hQ dX5_look_46 (by decide) (by decide) (by rfl) (by decide) ?_
      refine v_aload_n (n := 168) k dX5_look_167 rfl rfl ?_
      refine v_get (n := 171) k ciX5 0 20 (by decide) fl_X5_172 rfl rfl dX5_look_168 rfl ?_
      refine v_iretU k hq ?_ rfl dX5_look_171
      exact ⟨rfl, rfl⟩
    · refine v_tabIn (t := 172) k hQ dX5_look_46 (by decide) (by decide) (by rfl) (by decide) ?_
      refine v_aload_n (n := 173) k dX5_look_172 rfl rfl ?_
      refine v_iconst (n := 174) k dX5_look_173 rfl ?_
      refine v_iconst (n := 175) k dX5_look_174 rfl ?_
      refine v_rdVi (n := 178) k [0, 1] 0 (z_X5_at (p := 1) (i := 0) rfl rfl (by omega) (by omega) w2 hA) miX5_at ml_X5_91 (by decide) (by decide) rfl (by decide) rfl rfl rfl rfl (Nat.le_of_ble_eq_true rfl) ⟨Nat.zero_le _, Nat.zero_le _⟩ dX5_look_175 rfl ?_
      refine v_iretU k hq ?_ rfl dX5_look_178
      exact ⟨rfl, rfl⟩
