/-! ints of naturals: bits, shifts, quotients; the hash -/
theorem ax_and (a b : Nat) : iI a &&& iI b = iI ((a &&& b : Nat) : Int) := by
  apply Int32.toBitVec_inj.1
  show BitVec.ofNat 32 a &&& BitVec.ofNat 32 b = BitVec.ofNat 32 (a &&& b)
  apply BitVec.eq_of_getLsbD_eq
  intro i hi
  simp [hi]
theorem ax_xor (a b : Nat) : iI a ^^^ iI b = iI ((a ^^^ b : Nat) : Int) := by
  apply Int32.toBitVec_inj.1
  show BitVec.ofNat 32 a ^^^ BitVec.ofNat 32 b = BitVec.ofNat 32 (a ^^^ b)
  apply BitVec.eq_of_getLsbD_eq
  intro i hi
  simp [hi]
theorem ax_or (a b : Nat) : iI a ||| iI b = iI ((a ||| b : Nat) : Int) := by
  apply Int32.toBitVec_inj.1
  show BitVec.ofNat 32 a ||| BitVec.ofNat 32 b = BitVec.ofNat 32 (a ||| b)
  apply BitVec.eq_of_getLsbD_eq
  intro i hi
  simp [hi]
theorem ax_m16 {z : Int} {a : Nat} (h : z = a) : iI z &&& iI 65535 = iI ((a % 65536 : Nat) : Int) := by
  subst h
  have := ax_and a 65535
  rw [show (65535 : Nat) = 2 ^ 16 - 1 from rfl, Nat.and_two_pow_sub_one_eq_mod] at this
  exact this
theorem ax_m8 {z : Int} {a : Nat} (h : z = a) : iI z &&& iI 255 = iI ((a % 256 : Nat) : Int) := by
  subst h
  have := ax_and a 255
  rw [show (255 : Nat) = 2 ^ 8 - 1 from rfl, Nat.and_two_pow_sub_one_eq_mod] at this
  exact this
theorem ax_m3 {z : Int} {a : Nat} (h : z = a) : iI z &&& iI 7 = iI ((a % 8 : Nat) : Int) := by
  subst h
  have := ax_and a 7
  rw [show (7 : Nat) = 2 ^ 3 - 1 from rfl, Nat.and_two_pow_sub_one_eq_mod] at this
  exact this
theorem ax_m1 {z : Int} {a : Nat} (h : z = a) : iI z &&& iI 1 = iI ((a % 2 : Nat) : Int) := by
  subst h
  have := ax_and a 1
  rw [show (1 : Nat) = 2 ^ 1 - 1 from rfl, Nat.and_two_pow_sub_one_eq_mod] at this
  exact this
theorem ax_div {z y : Int} {a d : Nat} (h : z = a) (hy : y = d) (ha : a < 2147483648) (h0 : 0 < d) (hd : d < 2147483648) : iI z / iI y = iI ((a / d : Nat) : Int) := by
  subst h; subst hy
  exact pk_div (by omega) h0 (by omega)
theorem ax_rem {z y : Int} {a d : Nat} (h : z = a) (hy : y = d) (ha : a < 2147483648) (h0 : 0 < d) (hd : d < 2147483648) : iI z - iI z / iI y * iI y = iI ((a % d : Nat) : Int) := by
  subst h; subst hy
  exact pk_rem (by omega) h0 (by omega)
theorem ax_s : ∀ n, n < 32 → ((nI n &&& 31).toBitVec.smod 32).toNat = n := by decide +kernel
theorem ax_shl {z y : Int} {a d : Nat} (h : z = a) (hy : y = d) (hd : d < 32) (hb : a * 2 ^ d < 4294967296) : iI z <<< (iI y &&& 31) = iI ((a * 2 ^ d : Nat) : Int) := by
  subst h; subst hy
  exact pk_shlN (nI d &&& 31) d (ax_s d hd) (by omega)
theorem ax_shr {z y : Int} {a d : Nat} (h : z = a) (hy : y = d) (hd : d < 32) (ha : a < 2147483648) : iI z >>> (iI y &&& 31) = iI ((a / 2 ^ d : Nat) : Int) := by
  subst h; subst hy
  exact pk_shrN (by omega) (nI d &&& 31) d (ax_s d hd)
theorem ax_ne0 {y : Int} (h0 : 0 < y) (hd : y < 2147483648) : ¬ iI y = 0 := iI_ne0 ⟨by omega, by omega⟩ (by omega)
/-- one step of the hash -/
def hst (h b : Nat) : Nat := (((h ^^^ b) * 40503) % 65536) ^^^ ((((h ^^^ b) * 40503) % 65536) / 32)
/-- the hash of n bytes of f from a on -/
def hsh (f : Nat → Nat) (a : Nat) : Nat → Nat
  | 0 => 40503
  | n + 1 => hst (hsh f a n) (f (a + n))
theorem hst_lt (h b : Nat) : hst h b < 65536 := by
  unfold hst
  have h1 : ((h ^^^ b) * 40503) % 65536 < 2 ^ 16 := Nat.mod_lt _ (by decide)
  have h2 : (((h ^^^ b) * 40503) % 65536) / 32 < 2 ^ 16 := Nat.lt_of_le_of_lt (Nat.div_le_self _ _) h1
  exact Nat.xor_lt_two_pow h1 h2
theorem hsh_lt (f : Nat → Nat) (a n : Nat) : hsh f a n < 65536 := by
  cases n with
  | zero => show 40503 < 65536; decide
  | succ n => exact hst_lt _ _
theorem xor_lt16 {a b : Nat} (ha : a < 65536) (hb : b < 65536) : a ^^^ b < 65536 := Nat.xor_lt_two_pow (n := 16) ha hb
abbrev aN (cI : ClassId) (h n : Nat) (g : Nat → Nat) : Nat × va_E := (h, .inl (cI, n, .inl (fun j => iI ((g j : Nat) : Int))))
abbrev oDisk (hd hc hk : Nat) (ko : Int) (pg lg : Nat) (wt al dn : Int) : Nat × va_E := (hd, .inr (1, [.ref hc, .ref hk, .int (iI ko), .int (iI (pg : Int)), .int (iI (lg : Int)), .int (iI wt), .int (iI al), .int (iI dn)]))
abbrev oPage (h hb : Nat) : Nat × va_E := (h, .inr (2, [.ref hb]))
abbrev oTape (h hb : Nat) (sz : Int) : Nat × va_E := (h, .inr (3, [.ref hb, .int (iI sz)]))
abbrev oChange (h hd hj hi : Nat) : Nat × va_E := (h, .inr (0, [.ref hd, .ref hj, .ref hi]))
abbrev oHash (h hd hc hb hh ht ha : Nat) (an : Int) : Nat × va_E := (h, .inr (4, [.ref hd, .ref hc, .ref hb, .ref hh, .ref ht, .ref ha, .int (iI an)]))
/-- byte i of page p -/
def pb (C : Nat → Nat) (p i : Nat) : Nat := C (p * 256 + i)
