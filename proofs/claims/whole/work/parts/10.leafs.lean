theorem p2_le {d : Nat} (h : d ≤ 16) : 2 ^ d ≤ 65536 := Nat.le_trans (Nat.pow_le_pow_right (n := 2) (by decide) h) (by decide)
set_option maxHeartbeats 1000000 in
set_option maxRecDepth 20000 in
theorem lp_X4_hashOf {D : va_G} {cI cB cJ cZ : ClassId} {x : Kx} {h0 N : Nat} {f : Nat → Nat} {s z : Nat} {S Z : Int} (k : Kf x cX4_hashOf 5 yX4_hashOf.cls (some .int) D (TY cI cB cJ cZ) ({ frames := 0, cells := 0, slots := 0, locals := 0 })) (hq : isR x (fun v => v = some (.int (iI ((hsh f s z : Nat) : Int))))) (hS : S = (s : Int)) (hZ : Z = (z : Int)) (hb : s + z ≤ N) (hN : N < 1000000) : ∀ (m : Nat) (i : Nat) (I Hh : Int), z < i + m → i ≤ z → I = ((s + i : Nat) : Int) → Hh = ((hsh f s i : Nat) : Int) → Vw x 5 (fun _ => True) D false 0 0 [aN cI h0 N f] 7 [(0, .ref h0), (1, .int (iI S)), (2, .int (iI Z)), (3, .int (iI Hh)), (4, .int (iI I))] [] := by
  intro m
  induction m with
  | zero => intro i I Hh hm hi e2 e3; omega
  | succ m ih =>
    intro i I Hh hm hi e2 e3
    refine v_iload (n := 9) k dX4_hashOf_7 rfl rfl ?_
    refine v_iload_n (n := 10) k dX4_hashOf_9 rfl rfl ?_
    refine v_iload_n (n := 11) k dX4_hashOf_10 rfl rfl ?_
    refine v_iadd (n := 12) k dX4_hashOf_11 rfl ?_
    refine v_icmp_ge (n := 15) (t := 55) k (⟨by omega, by omega⟩) (⟨by omega, by omega⟩) dX4_hashOf_12 (by decide) rfl (fun c_12 => ?_) (fun c_12 => ?_)
    · refine v_iload_n (n := 56) k dX4_hashOf_55 rfl rfl ?_
      refine v_iretR k hq ?_ dX4_hashOf_56
      have hz : i = z := by omega
      rw [e3, hz]
    · refine v_iload (n := 17) k dX4_hashOf_15 rfl rfl ?_
      refine v_if_lt (n := 20) (t := 49) k (⟨by omega, by omega⟩) dX4_hashOf_17 (by decide) rfl (fun c_17 => ?_) (fun c_17 => ?_)
      · exfalso; omega
      · refine v_iload (n := 22) k dX4_hashOf_20 rfl rfl ?_
        refine v_aload_n (n := 23) k dX4_hashOf_22 rfl rfl ?_
        refine v_alen (n := 24) k 0 0 rfl rfl dX4_hashOf_23 rfl ?_
        refine v_icmp_ge (n := 27) (t := 49) k (⟨by omega, by omega⟩) (⟨by omega, by omega⟩) dX4_hashOf_24 (by decide) rfl (fun c_24 => ?_) (fun c_24 => ?_)
        · exfalso; omega
        · refine v_iload_n (n := 28) k dX4_hashOf_27 rfl rfl ?_
          refine v_aload_n (n := 29) k dX4_hashOf_28 rfl rfl ?_
          refine v_iload (n := 31) k dX4_hashOf_29 rfl rfl ?_
          refine v_ialdN (n := 32) k 0 0 (s + i) rfl rfl (by omega) (by omega) (by omega) dX4_hashOf_31 rfl ?_
          refine v_ixor (n := 33) k (((hsh f s i ^^^ f (s + i) : Nat) : Int)) (by rw [e3]; exact ax_xor _ _) dX4_hashOf_32 rfl ?_
          refine v_ldcw (n := 36) k co_X4_264 dX4_hashOf_33 rfl ?_
          refine v_imul (n := 37) k dX4_hashOf_36 rfl ?_
          refine v_ldcw (n := 40) k co_X4_265 dX4_hashOf_37 rfl ?_
          refine v_iand (n := 41) k ((((hsh f s i ^^^ f (s + i)) * 40503 % 65536 : Nat) : Int)) (ax_m16 (by omega)) dX4_hashOf_40 rfl ?_
          refine v_istore_n (n := 42) k dX4_hashOf_41 rfl (by decide) rfl rfl ?_
          refine v_iload_n (n := 43) k dX4_hashOf_42 rfl rfl ?_
          refine v_iload_n (n := 44) k dX4_hashOf_43 rfl rfl ?_
          refine v_bipush (n := 46) k dX4_hashOf_44 (by decide) rfl ?_
          refine v_idiv (n := 47) k ((((hsh f s i ^^^ f (s + i)) * 40503 % 65536 / 32 : Nat) : Int)) (ax_ne0 (by omega) (by omega)) (ax_div rfl rfl (by omega) (by omega) (by omega)) dX4_hashOf_46 rfl ?_
          refine v_ixor (n := 48) k (((((hsh f s i ^^^ f (s + i)) * 40503 % 65536) ^^^ ((hsh f s i ^^^ f (s + i)) * 40503 % 65536 / 32) : Nat) : Int)) (ax_xor _ _) dX4_hashOf_47 rfl ?_
          refine v_istore_n (n := 49) k dX4_hashOf_48 rfl (by decide) rfl rfl ?_
          refine v_iinc (n := 52) k dX4_hashOf_49 rfl (by decide) rfl rfl rfl ?_
          refine v_goto (t := 7) k dX4_hashOf_52 (by decide) ?_
          exact ih (i + 1) _ _ (by omega) (by omega) (by omega) rfl
set_option maxHeartbeats 1000000 in
set_option maxRecDepth 20000 in
theorem z_X4_hashOf {D : va_G} {cI cB cJ cZ : ClassId} {h0 N : Nat} {f : Nat → Nat} {s z : Nat} {S Z : Int} (hS : S = (s : Int)) (hZ : Z = (z : Int)) (hb : s + z ≤ N) (hN : N < 1000000) : ∀ l, Rd l yX4_hashOf cX4_hashOf 5 (some .int) ({ frames := 0, cells := 0, slots := 0, locals := 0 }) D (TY cI cB cJ cZ) [.ref h0, .int (iI S), .int (iI Z)] [aN cI h0 N f] (fun v => v = some (.int (iI ((hsh f s z : Nat) : Int)))) := by
  intro l
  refine Rd_of (by decide) (Nat.le_of_ble_eq_true rfl) (fun x k hq => ?_)
  refine v_ldcw (n := 3) k co_X4_264 dX4_hashOf_0 rfl ?_
  refine v_istore_n (n := 4) k dX4_hashOf_3 rfl (by decide) rfl rfl ?_
  refine v_iload_n (n := 5) k dX4_hashOf_4 rfl rfl ?_
  refine v_istore (n := 7) k dX4_hashOf_5 rfl (by decide) rfl rfl ?_
  exact lp_X4_hashOf k hq hS hZ hb hN (z + 1) 0 _ _ (by omega) (by omega) (by omega) rfl
def pF (d : Nat) : Nat := if d ≤ 8 then 1 else 2 ^ (d - 8)
theorem pF_le {d : Nat} (h : d ≤ 16) : pF d ≤ 256 := by
  unfold pF
  split
  · decide
  · exact Nat.le_trans (Nat.pow_le_pow_right (n := 2) (j := 8) (by decide) (by omega)) (by decide)
theorem pF_pos (d : Nat) : 0 < pF d := by
  unfold pF
  split
  · decide
  · exact Nat.two_pow_pos _
set_option maxHeartbeats 1000000 in
set_option maxRecDepth 20000 in
theorem z_X4_pagesFor {D : va_G} {cI cB cJ cZ : ClassId} {d : Nat} {Q : Int} (hQ : Q = (d : Int)) (hd : d ≤ 16) : ∀ l, Rd l yX4_pagesFor cX4_pagesFor 1 (some .int) ({ frames := 0, cells := 0, slots := 0, locals := 0 }) D (TY cI cB cJ cZ) [.int (iI Q)] [] (fun v => v = some (.int (iI ((pF d : Nat) : Int)))) := by
  intro l
  refine Rd_of (by decide) (Nat.le_of_ble_eq_true rfl) (fun x k hq => ?_)
  refine v_iload_n (n := 1) k dX4_pagesFor_0 rfl rfl ?_
  refine v_bipush (n := 3) k dX4_pagesFor_1 (by decide) rfl ?_
  refine v_icmp_gt (n := 6) (t := 10) k (⟨by omega, by omega⟩) (⟨by omega, by omega⟩) dX4_pagesFor_3 (by decide) rfl (fun c_3 => ?_) (fun c_3 => ?_)
  · refine v_iconst (n := 11) k dX4_pagesFor_10 rfl ?_
    refine v_iload_n (n := 12) k dX4_pagesFor_11 rfl rfl ?_
    refine v_bipush (n := 14) k dX4_pagesFor_12 (by decide) rfl ?_
    refine v_isub (n := 15) k dX4_pagesFor_14 rfl ?_
    refine v_ishl (n := 16) k (((1 * 2 ^ (d - 8) : Nat) : Int)) (ax_shl rfl (by omega) (by omega) (by have := p2_le (d := d - 8) (by omega); omega)) dX4_pagesFor_15 rfl ?_
    refine v_iretR k hq ?_ dX4_pagesFor_16
    first | rw [pF, if_pos (by omega)]; rfl | rw [pF, if_neg (by omega), Nat.one_mul]
  · refine v_iconst (n := 7) k dX4_pagesFor_6 rfl ?_
    refine v_goto (t := 16) k dX4_pagesFor_7 (by decide) ?_
    refine v_iretR k hq ?_ dX4_pagesFor_16
    first | rw [pF, if_pos (by omega)]; rfl | rw [pF, if_neg (by omega), Nat.one_mul]
set_option maxHeartbeats 1000000 in
set_option maxRecDepth 20000 in
theorem lp_J7_fill {D : va_G} {cI cB cJ cZ : ClassId} {x : Kx} {h0 N : Nat} {V : Int} {v : Nat} (k : Kf x cJ7_fill_53178 4 yJ7_fill_53178.cls none D (TY cI cB cJ cZ) ({ frames := 0, cells := 0, slots := 0, locals := 0 })) (hq : isU x D [h0] (fun r w1 => r = none ∧ w1 = [aN cI h0 N (fun _ => v)])) (hV : V = (v : Int)) (hN : N < 1000000) : ∀ (m : Nat) (i : Nat) (I : Int) (f : Nat → Nat), N < i + m → i ≤ N → I = (i : Int) → (∀ j, j < i → f j = v) → Vw x 4 (fun q => q ∈ [h0]) D true 0 0 [aN cI h0 N f] 5 [(0, .ref h0), (1, .int (iI V)), (2, .int (iI I)), (3, .int (iI (N : Int)))] [] := by
  intro m
  induction m with
  | zero => intro i I f hm hi e2 hf; omega
  | succ m ih =>
    intro i I f hm hi e2 hf
    refine v_iload_n (n := 6) k dJ7_fill_53178_5 rfl rfl ?_
    refine v_iload_n (n := 7) k dJ7_fill_53178_6 rfl rfl ?_
    refine v_icmp_ge (n := 10) (t := 20) k (⟨by omega, by omega⟩) (⟨by omega, by omega⟩) dJ7_fill_53178_7 (by decide) rfl (fun c_7 => ?_) (fun c_7 => ?_)
    · refine v_cg 0 (fun _ => iI ((v : Nat) : Int)) rfl (fun j hj => by rw [hf j (by omega)]) ?_
      refine v_vretU k hq ?_ rfl dJ7_fill_53178_20
      exact ⟨rfl, rfl⟩
    · refine v_aload_n (n := 11) k dJ7_fill_53178_10 rfl rfl ?_
      refine v_iload_n (n := 12) k dJ7_fill_53178_11 rfl rfl ?_
      refine v_iload_n (n := 13) k dJ7_fill_53178_12 rfl rfl ?_
      refine v_iastN (n := 14) k 0 0 (i) rfl rfl (by omega) (by omega) (by omega) (v) (by omega) dJ7_fill_53178_13 rfl ?_
      refine v_iinc (n := 17) k dJ7_fill_53178_14 rfl (by decide) rfl rfl rfl ?_
      refine v_goto (t := 5) k dJ7_fill_53178_17 (by decide) ?_
      exact ih (i + 1) _ (upN f i v) (by omega) (by omega) (by omega) (fun j hj => by
        unfold upN
        split
        · rfl
        · exact hf j (by omega))
set_option maxHeartbeats 1000000 in
set_option maxRecDepth 20000 in
theorem z_J7_fill {D : va_G} {cI cB cJ cZ : ClassId} {h0 N : Nat} {f : Nat → Nat} {V : Int} {v : Nat} (hV : V = (v : Int)) (hN : N < 1000000) : ∀ l, Up l yJ7_fill_53178 cJ7_fill_53178 4 none ({ frames := 0, cells := 0, slots := 0, locals := 0 }) D (TY cI cB cJ cZ) [.ref h0, .int (iI V)] [aN cI h0 N f] (fun r w1 => r = none ∧ w1 = [aN cI h0 N (fun _ => v)]) := by
  intro l
  refine Up_of (by decide) (Nat.le_of_ble_eq_true rfl) (fun x k hq => ?_)
  refine v_iconst (n := 1) k dJ7_fill_53178_0 rfl ?_
  refine v_istore_n (n := 2) k dJ7_fill_53178_1 rfl (by decide) rfl rfl ?_
  refine v_aload_n (n := 3) k dJ7_fill_53178_2 rfl rfl ?_
  refine v_alen (n := 4) k 0 0 rfl rfl dJ7_fill_53178_3 rfl ?_
  refine v_istore_n (n := 5) k dJ7_fill_53178_4 rfl (by decide) rfl rfl ?_
  exact lp_J7_fill k hq hV hN (N + 1) 0 _ f (by omega) (by omega) (by omega) (fun j hj => absurd hj (by omega))
