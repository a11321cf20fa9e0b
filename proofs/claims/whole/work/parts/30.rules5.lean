set_option maxRecDepth 100000 in
theorem cq_X5_194 : Cond.constantLong RX5 194 255 ∈ TB := TB_mem 882 rfl rfl
set_option maxRecDepth 100000 in
theorem cq_L_54 : Cond.constantLong RL 54 4294967295 ∈ TB := TB_mem 963 rfl rfl
/-- byte j of a long -/
def by8 (v : Int64) (j : Nat) : Nat := v.toBitVec.toNat / 2 ^ (8 * j) % 256
theorem by8_lt (v : Int64) (j : Nat) : by8 v j < 256 := Nat.mod_lt _ (by decide)
theorem by8_0 (j : Nat) : by8 0 j = 0 := by
  show 0 / 2 ^ (8 * j) % 256 = 0
  rw [Nat.zero_div]
theorem by8_or (v w : Int64) (j : Nat) : by8 (v ||| w) j = by8 v j ||| by8 w j := by
  unfold by8
  rw [Int64.toBitVec_or, BitVec.toNat_or]
  apply Nat.eq_of_testBit_eq
  intro i
  simp only [Nat.testBit_or, show (256 : Nat) = 2 ^ 8 from rfl, Nat.testBit_mod_two_pow, Nat.testBit_div_two_pow]
  cases decide (i < 8) <;> simp
theorem lx_s : ∀ n, n < 64 → (((nI n).toInt64 &&& 63).toBitVec.smod 64).toNat = n := by decide +kernel
theorem lx_u : ∀ n, n < 64 → ((((nI n).toInt64.toUInt64 &&& Int64.toUInt64 63)).toBitVec % 64).toNat = n := by decide +kernel
theorem lx_shl (v : Int64) {n : Nat} (hn : n < 64) : (v <<< ((iI (n : Int)).toInt64 &&& 63)).toBitVec = v.toBitVec <<< n := by
  rw [Int64.toBitVec_shiftLeft]
  show v.toBitVec <<< (((nI n).toInt64 &&& 63).toBitVec.smod 64) = _
  rw [BitVec.shiftLeft_eq', lx_s n hn]
theorem lx_shr (v : Int64) {n : Nat} (hn : n < 64) : (v >>> ((iI (n : Int)).toInt64 &&& 63)).toBitVec = v.toBitVec.sshiftRight n := by
  rw [Int64.toBitVec_shiftRight]
  show v.toBitVec.sshiftRight' (((nI n).toInt64 &&& 63).toBitVec.smod 64) = _
  rw [BitVec.sshiftRight_eq', lx_s n hn]
theorem iI_i (w : Int32) : iI w.toInt = w := Int32.ofInt_toInt w
theorem tb8 (v : Int64) (j i : Nat) : (by8 v j).testBit i = (decide (i < 8) && v.toBitVec.getLsbD (8 * j + i)) := by
  unfold by8
  rw [show (256 : Nat) = 2 ^ 8 from rfl, Nat.testBit_mod_two_pow, Nat.testBit_div_two_pow, Nat.add_comm]
  rfl
/-- a byte by a shift with the sign -/
theorem by8_shr (v : Int64) {j : Nat} (hj : j < 8) : iI ((v >>> ((iI ((8 * j : Nat) : Int)).toInt64 &&& 63)).toInt32.toInt) &&& iI 255 = iI ((by8 v j : Nat) : Int) := by
  rw [iI_i]
  apply Int32.toBitVec_inj.1
  rw [Int32.toBitVec_and, Int64.toBitVec_toInt32, lx_shr v (by omega)]
  show _ &&& BitVec.ofNat 32 255 = BitVec.ofNat 32 (by8 v j)
  apply BitVec.eq_of_getLsbD_eq
  intro i hi
  rw [BitVec.getLsbD_and, BitVec.getLsbD_signExtend, BitVec.getLsbD_ofNat, BitVec.getLsbD_ofNat, tb8, BitVec.getLsbD_sshiftRight]
  have e255 : Nat.testBit 255 i = decide (i < 8) := by
    have := Nat.testBit_two_pow_sub_one 8 i
    exact this
  rw [e255]
  by_cases h8 : i < 8
  · simp [h8, hi, show i < 64 by omega, show 8 * j + i < 64 by omega, show ¬ 64 ≤ i by omega]
  · simp [h8]
/-- a byte shifted into its place -/
theorem by8_shl {b : Nat} (hb : b < 256) {j i : Nat} (hj : j < 8) (hi : i < 8) : by8 ((iI (b : Int)).toInt64 <<< ((iI ((8 * j : Nat) : Int)).toInt64 &&& 63)) i = if i = j then b else 0 := by
  have e0 : (iI (b : Int)).toInt64.toBitVec = BitVec.ofNat 64 b := by
    have : ∀ b, b < 256 → (nI b).toInt64.toBitVec = BitVec.ofNat 64 b := by decide +kernel
    exact this b hb
  unfold by8
  rw [lx_shl _ (by omega), e0, BitVec.toNat_shiftLeft, BitVec.toNat_ofNat, Nat.shiftLeft_eq, Nat.mod_eq_of_lt (show b < 2 ^ 64 by omega)]
  have h7 : b * 2 ^ (8 * j) < 2 ^ 64 := by
    have h1 : 2 ^ (8 * j) ≤ 2 ^ 56 := Nat.pow_le_pow_right (by decide) (by omega)
    calc b * 2 ^ (8 * j) ≤ b * 2 ^ 56 := Nat.mul_le_mul_left _ h1
      _ < 256 * 2 ^ 56 := Nat.mul_lt_mul_of_pos_right hb (by decide)
      _ = 2 ^ 64 := by decide
  rw [Nat.mod_eq_of_lt h7]
  rcases Nat.lt_trichotomy i j with h | h | h
  · rw [if_neg (by omega)]
    have e1 : 2 ^ (8 * j) = 2 ^ (8 * i) * (256 * 2 ^ (8 * (j - i - 1))) := by
      rw [show (256 : Nat) = 2 ^ 8 from rfl, ← Nat.pow_add, ← Nat.pow_add]
      congr 1
      omega
    rw [e1, show b * (2 ^ (8 * i) * (256 * 2 ^ (8 * (j - i - 1)))) = b * (256 * 2 ^ (8 * (j - i - 1))) * 2 ^ (8 * i) by ac_rfl, Nat.mul_div_cancel _ (Nat.pow_pos (by decide)), show b * (256 * 2 ^ (8 * (j - i - 1))) = 256 * (b * 2 ^ (8 * (j - i - 1))) by ac_rfl, Nat.mul_mod_right]
  · subst h
    rw [if_pos rfl, Nat.mul_div_cancel _ (Nat.pow_pos (by decide)), Nat.mod_eq_of_lt hb]
  · rw [if_neg (by omega)]
    have e1 : 2 ^ (8 * i) = 2 ^ (8 * (i - j)) * 2 ^ (8 * j) := by
      rw [← Nat.pow_add]
      congr 1
      omega
    rw [e1, Nat.mul_div_mul_right _ _ (Nat.pow_pos (by decide))]
    have h8 : b < 2 ^ (8 * (i - j)) := Nat.lt_of_lt_of_le hb (show 2 ^ 8 ≤ _ from Nat.pow_le_pow_right (by decide) (by omega))
    rw [Nat.div_eq_of_lt h8]
/-- a byte of a row of bytes, as Java reads it -/
def sb (n : Nat) : Int := if n < 128 then (n : Int) else (n : Int) - 256
theorem sb_c : ∀ n, n < 256 → (iI ((n : Nat) : Int)).toInt8.toInt32 = iI (sb n) := by decide +kernel
theorem sb_and : ∀ n, n < 256 → iI (sb n) &&& iI 255 = iI ((n : Nat) : Int) := by decide +kernel
theorem sb_nar : ∀ n, n < 256 → vp_nar .byte (iI (sb n)) = iI (sb n) := by decide +kernel
theorem sb_in (n : Nat) (h : n < 256) : in32 (sb n) := by
  unfold sb
  split
  · exact ⟨by omega, by omega⟩
  · exact ⟨by omega, by omega⟩
theorem b8_low (w u : Int32) (h : w &&& iI 255 = u) : w.toInt8 = u.toInt8 := by
  subst h
  apply Int8.toBitVec_inj.1
  rw [Int32.toBitVec_toInt8, Int32.toBitVec_toInt8, Int32.toBitVec_and]
  apply BitVec.eq_of_getLsbD_eq
  intro i hi
  have e255 : (iI 255).toBitVec.getLsbD i = true := by
    show (BitVec.ofNat 32 255).getLsbD i = true
    rw [BitVec.getLsbD_ofNat]
    have := Nat.testBit_two_pow_sub_one 8 i
    rw [show (255 : Nat) = 2 ^ 8 - 1 from rfl, this]
    simp [hi, show i < 32 by omega]
  rw [BitVec.getLsbD_signExtend, BitVec.getLsbD_signExtend, BitVec.getLsbD_and, e255]
  simp [show i < 32 by omega]
abbrev aB (cB : ClassId) (h n : Nat) (g : Nat → Nat) : Nat × va_E := (h, .inl (cB, n, .inl (fun j => iI (sb (g j)))))
abbrev aZ (cZ : ClassId) (h n : Nat) (g : Nat → Bool) : Nat × va_E := (h, .inl (cZ, n, .inl (fun j => iI (bI (g j)))))
abbrev aL (cJ : ClassId) (h n : Nat) (g : Nat → Int64) : Nat × va_E := (h, .inl (cJ, n, .inr (.inl g)))
def upB (g : Nat → Bool) (k : Nat) (v : Bool) : Nat → Bool := fun j => if j = k then v else g j
section VR5
variable {x : Kx} {cc : ByteArray} {nL : Nat} {own : String} {ret : Option FieldType} {D : va_G} {tys : List (ClassId × FieldType)} {rm : Room} {A : Nat → Prop} {wr : Bool} {cells slots : Nat} {ws : va_W} {pc n : Nat} {lv lv' : List (Nat × Value)} {st : List Value}
theorem v_i2l (k : Kf x cc nL own ret D tys rm) {a : Int32} (hd : decode cc pc = .ok (.i2l, 1)) (hn : pc + 1 = n) (h : Vw x nL A D wr cells slots ws n lv (.long a.toInt64 :: st)) : Vw x nL A D wr cells slots ws pc lv (.int a :: st) := by
  subst hn
  exact fun H locs ls a b c d => lv_i2l k.1 k.2.1 hd rfl (h H locs ls a b c d)
theorem v_l2i (k : Kf x cc nL own ret D tys rm) {a : Int64} (hd : decode cc pc = .ok (.l2i, 1)) (hn : pc + 1 = n) (h : Vw x nL A D wr cells slots ws n lv (.int (iI a.toInt32.toInt) :: st)) : Vw x nL A D wr cells slots ws pc lv (.long a :: st) := by
  subst hn
  rw [iI_i] at h
  exact fun H locs ls a b c d => lv_l2i k.1 k.2.1 hd rfl (h H locs ls a b c d)
theorem v_lor (k : Kf x cc nL own ret D tys rm) {a b : Int64} (hd : decode cc pc = .ok (.lor, 1)) (hn : pc + 1 = n) (h : Vw x nL A D wr cells slots ws n lv (.long (a ||| b) :: st)) : Vw x nL A D wr cells slots ws pc lv (.long b :: .long a :: st) := by
  subst hn
  exact fun H locs ls a b c d => lv_lor k.1 k.2.1 hd (h H locs ls a b c d)
theorem v_land (k : Kf x cc nL own ret D tys rm) {a b : Int64} (hd : decode cc pc = .ok (.land, 1)) (hn : pc + 1 = n) (h : Vw x nL A D wr cells slots ws n lv (.long (a &&& b) :: st)) : Vw x nL A D wr cells slots ws pc lv (.long b :: .long a :: st) := by
  subst hn
  exact fun H locs ls a b c d => lv_land k.1 k.2.1 hd (h H locs ls a b c d)
theorem v_lshl (k : Kf x cc nL own ret D tys rm) {a : Int64} {y : Int32} (hd : decode cc pc = .ok (.lshl, 1)) (hn : pc + 1 = n) (h : Vw x nL A D wr cells slots ws n lv (.long (a <<< (y.toInt64 &&& 63)) :: st)) : Vw x nL A D wr cells slots ws pc lv (.int y :: .long a :: st) := by
  subst hn
  exact fun H locs ls a b c d => lv_lshl k.1 k.2.1 hd rfl (h H locs ls a b c d)
theorem v_lshr (k : Kf x cc nL own ret D tys rm) {a : Int64} {y : Int32} (hd : decode cc pc = .ok (.lshr, 1)) (hn : pc + 1 = n) (h : Vw x nL A D wr cells slots ws n lv (.long (a >>> (y.toInt64 &&& 63)) :: st)) : Vw x nL A D wr cells slots ws pc lv (.int y :: .long a :: st) := by
  subst hn
  exact fun H locs ls a b c d => lv_lshr k.1 k.2.1 hd rfl (h H locs ls a b c d)
theorem v_lushr (k : Kf x cc nL own ret D tys rm) {a : Int64} {y : Int32} (hd : decode cc pc = .ok (.lushr, 1)) (hn : pc + 1 = n) (h : Vw x nL A D wr cells slots ws n lv (.long (a.toUInt64 >>> (y.toInt64.toUInt64 &&& Int64.toUInt64 63)).toInt64 :: st)) : Vw x nL A D wr cells slots ws pc lv (.int y :: .long a :: st) := by
  subst hn
  exact fun H locs ls a b c d => lv_lushr k.1 k.2.1 hd rfl (h H locs ls a b c d)
theorem v_lconst (k : Kf x cc nL own ret D tys rm) {i : Fin 2} (v : Int64) (hv : Int64.ofNat (i : Nat) = v) (hd : decode cc pc = .ok (.lconst i, 1)) (hn : pc + 1 = n) (h : Vw x nL A D wr cells slots ws n lv (.long v :: st)) : Vw x nL A D wr cells slots ws pc lv st := by
  subst hn
  exact fun H locs ls a b c d => lv_lconst k.1 k.2.1 hd hv (h H locs ls a b c d)
theorem v_ldc2 (k : Kf x cc nL own ret D tys rm) {i : Nat} {v : Int64} (hc : Cond.constantLong own i v ∈ TB) (hd : decode cc pc = .ok (.ldc2_w i, 3)) (hn : pc + 3 = n) (h : Vw x nL A D wr cells slots ws n lv (.long v :: st)) : Vw x nL A D wr cells slots ws pc lv (st) := by
  subst hn
  exact fun H locs ls a b c d => lv_ldc2 k.1 k.2.1 k.2.2.2.1 (k.2.2.2.2.1 _ hc) hd (h H locs ls a b c d)
theorem v_baldN (k : Kf x cc nL own ret D tys rm) (q0 t0 j0 : Nat) {cA : ClassId} {N a : Nat} {g : Nat → Nat} {i : Int} (ht : tys[t0]? = some (cA, .byte)) (he : ws[q0]? = some (a, .inl (cA, N, .inl (fun j => iI (sb (g j)))))) (hi : i = (j0 : Int)) (hin : j0 < N) (hN : N < 2147483648) (hd : decode cc pc = .ok (.baload, 1)) (hn : pc + 1 = n) (h : Vw x nL A D wr cells slots ws n lv (.int (iI (sb (g j0))) :: st)) : Vw x nL A D wr cells slots ws pc lv (.int (iI i) :: .ref a :: st) := by
  subst hi
  exact v_bald k q0 t0 ht he ⟨by omega, by omega⟩ hN hd hn (by rw [Int.toNat_natCast]; exact h)
theorem v_zaldN (k : Kf x cc nL own ret D tys rm) (q0 t0 j0 : Nat) {cA : ClassId} {N a : Nat} {g : Nat → Bool} {i : Int} (ht : tys[t0]? = some (cA, .boolean)) (he : ws[q0]? = some (a, .inl (cA, N, .inl (fun j => iI (bI (g j)))))) (hi : i = (j0 : Int)) (hin : j0 < N) (hN : N < 2147483648) (hd : decode cc pc = .ok (.baload, 1)) (hn : pc + 1 = n) (h : Vw x nL A D wr cells slots ws n lv (.int (iI (bI (g j0))) :: st)) : Vw x nL A D wr cells slots ws pc lv (.int (iI i) :: .ref a :: st) := by
  subst hi
  exact v_zald k q0 t0 ht he ⟨by omega, by omega⟩ hN hd hn (by rw [Int.toNat_natCast]; exact h)
theorem v_bastN (k : Kf x cc nL own ret D tys rm) (q0 t0 j0 : Nat) {cA : ClassId} {N a : Nat} {g : Nat → Nat} {i : Int} (ht : tys[t0]? = some (cA, .byte)) (he : ws[q0]? = some (a, .inl (cA, N, .inl (fun j => iI (sb (g j)))))) (hi : i = (j0 : Int)) (hin : j0 < N) (hN : N < 2147483648) {v : Int} (b0 : Nat) (hv : iI v = iI (sb b0)) (hb0 : b0 < 256) (hd : decode cc pc = .ok (.bastore, 1)) (hn : pc + 1 = n) (h : Vw x nL A D true cells slots (ws.set q0 (a, .inl (cA, N, .inl (fun j => iI (sb (upN g j0 b0 j)))))) n lv (st)) : Vw x nL A D true cells slots ws pc lv (.int (iI v) :: .int (iI i) :: .ref a :: st) := by
  subst hi
  rw [hv]
  refine v_bast k q0 t0 ht he ⟨by omega, by omega⟩ hN (sb b0) (sb_nar b0 hb0) hd hn ?_
  rw [Int.toNat_natCast]
  have e : (fun j => iI (upI (fun j => sb (g j)) j0 (sb b0) j)) = fun j => iI (sb (upN g j0 b0 j)) := by
    funext j
    simp only [upI, upN]
    split <;> rfl
  rw [e]
  exact h
theorem v_zastN (k : Kf x cc nL own ret D tys rm) (q0 t0 j0 : Nat) {cA : ClassId} {N a : Nat} {g : Nat → Bool} {i : Int} (ht : tys[t0]? = some (cA, .boolean)) (he : ws[q0]? = some (a, .inl (cA, N, .inl (fun j => iI (bI (g j)))))) (hi : i = (j0 : Int)) (hin : j0 < N) (hN : N < 2147483648) {v : Int} (b0 : Bool) (hv : v = bI b0) (hd : decode cc pc = .ok (.bastore, 1)) (hn : pc + 1 = n) (h : Vw x nL A D true cells slots (ws.set q0 (a, .inl (cA, N, .inl (fun j => iI (bI (upB g j0 b0 j)))))) n lv (st)) : Vw x nL A D true cells slots ws pc lv (.int (iI v) :: .int (iI i) :: .ref a :: st) := by
  subst hi
  subst hv
  refine v_zast k q0 t0 ht he ⟨by omega, by omega⟩ hN (bI b0) (by cases b0 <;> decide) hd hn ?_
  rw [Int.toNat_natCast]
  have e : (fun j => iI (upI (fun j => bI (g j)) j0 (bI b0) j)) = fun j => iI (bI (upB g j0 b0 j)) := by
    funext j
    simp only [upI, upB]
    split <;> rfl
  rw [e]
  exact h
theorem v_laldN (k : Kf x cc nL own ret D tys rm) (q0 t0 j0 : Nat) {cA : ClassId} {N a : Nat} {g : Nat → Int64} {i : Int} (ht : tys[t0]? = some (cA, .long)) (he : ws[q0]? = some (a, .inl (cA, N, .inr (.inl g)))) (hi : i = (j0 : Int)) (hin : j0 < N) (hN : N < 2147483648) (hd : decode cc pc = .ok (.laload, 1)) (hn : pc + 1 = n) (h : Vw x nL A D wr cells slots ws n lv (.long (g j0) :: st)) : Vw x nL A D wr cells slots ws pc lv (.int (iI i) :: .ref a :: st) := by
  subst hi
  subst hn
  have hc : (iI (j0 : Int)).toNatClampNeg = j0 := by rw [iI_clamp ⟨by omega, by omega⟩, Int.toNat_natCast]
  exact fun H locs ls a' b' c d => va_lald k.1 k.2.1 k.2.2.2.2.2.2.2.1.1 a' q0 t0 he ht (iI_in ⟨by omega, by omega⟩ hN) hd (by rw [hc]; exact h H locs ls a' b' c d)
theorem v_lastN (k : Kf x cc nL own ret D tys rm) (q0 t0 j0 : Nat) {cA : ClassId} {N a : Nat} {g : Nat → Int64} {i : Int} (ht : tys[t0]? = some (cA, .long)) (he : ws[q0]? = some (a, .inl (cA, N, .inr (.inl g)))) (hi : i = (j0 : Int)) (hin : j0 < N) (hN : N < 2147483648) {v : Int64} (hd : decode cc pc = .ok (.lastore, 1)) (hn : pc + 1 = n) (h : Vw x nL A D true cells slots (ws.set q0 (a, .inl (cA, N, .inr (.inl (vp_updL g j0 v))))) n lv (st)) : Vw x nL A D true cells slots ws pc lv (.long v :: .int (iI i) :: .ref a :: st) := by
  subst hi
  subst hn
  have hc : (iI (j0 : Int)).toNatClampNeg = j0 := by rw [iI_clamp ⟨by omega, by omega⟩, Int.toNat_natCast]
  refine fun H locs ls a' b' c d => va_last k.1 k.2.1 k.2.2.2.2.2.2.2.1.1 a' b' c.1 q0 t0 he ht (iI_in ⟨by omega, by omega⟩ hN) hd (fun H1 l1 p1 d1 s1 => ?_)
  rw [hc] at p1 d1
  exact h H1 l1 ls p1 d1 ⟨s1, fun h9 => by cases h9⟩ d
end VR5
