/-! entries in blocks: those alike in the first D bits tell the same bucket of depth D, and only these -/
def BS (d : Nat) (en dp : Nat → Nat) : Prop := ∀ i j, i < 2 ^ d → j < 2 ^ d → (en j = en i ↔ j / 2 ^ (d - dp (en i)) = i / 2 ^ (d - dp (en i)))
theorem div_blk {j S m : Nat} (hS : 0 < S) : j / S = m ↔ m * S ≤ j ∧ j < m * S + S := by
  constructor
  · intro e
    subst e
    have h1 := Nat.div_add_mod j S
    have h2 := Nat.mod_lt j hS
    rw [Nat.mul_comm] at h1
    omega
  · rintro ⟨h1, h2⟩
    exact Nat.div_eq_of_lt_le h1 (by rw [Nat.succ_mul]; exact h2)
theorem two_mul_blk (m s : Nat) : 2 * m * s = m * (s + s) := by
  rw [Nat.mul_add, Nat.mul_comm 2 m, Nat.mul_assoc, Nat.two_mul, Nat.mul_add]
theorem two_mul_blk1 (m s : Nat) : (2 * m + 1) * s = m * (s + s) + s := by
  rw [Nat.succ_mul, two_mul_blk]
theorem pow_half {d D : Nat} (h : D < d) : 2 ^ (d - D) = 2 ^ (d - (D + 1)) + 2 ^ (d - (D + 1)) := by
  rw [show d - D = (d - (D + 1)) + 1 by omega, Nat.pow_succ]
  omega
theorem BS_split {d : Nat} {en dp : Nat → Nat} (h : BS d en dp) {i0 q a b : Nat} (hi : i0 < 2 ^ d) (hD : dp (en i0) < d) (hq : ∀ i, i < 2 ^ d → en i ≠ q) (ha : a = i0 / 2 ^ (d - dp (en i0)) * 2 ^ (d - dp (en i0)) + 2 ^ (d - dp (en i0)) / 2) (hb : b = i0 / 2 ^ (d - dp (en i0)) * 2 ^ (d - dp (en i0)) + 2 ^ (d - dp (en i0))) : BS d (fun i => if a ≤ i ∧ i < b then q else en i) (fun e => if e = en i0 ∨ e = q then dp (en i0) + 1 else dp e) := by
  have hp := pow_half hD
  generalize hs : 2 ^ (d - (dp (en i0) + 1)) = s at hp
  have s0 : 0 < s := by rw [← hs]; exact Nat.pow_pos (by decide)
  rw [hp] at ha hb
  have hS0 : 0 < s + s := by omega
  generalize hm : i0 / (s + s) = m at ha hb
  have hpq := hq i0 hi
  -- the block of the bucket
  have blk : ∀ j, j < 2 ^ d → (en j = en i0 ↔ m * (s + s) ≤ j ∧ j < m * (s + s) + (s + s)) := by
    intro j hj
    rw [h i0 j hi hj, hp, hm]
    exact div_blk hS0
  have b0 : ∀ j, j / s = 2 * m ↔ m * (s + s) ≤ j ∧ j < m * (s + s) + s := by
    intro j
    rw [div_blk s0, two_mul_blk]
  have b1 : ∀ j, j / s = 2 * m + 1 ↔ m * (s + s) + s ≤ j ∧ j < m * (s + s) + s + s := by
    intro j
    rw [div_blk s0, two_mul_blk1]
  generalize hF : m * (s + s) = F at ha hb blk b0 b1
  have e2 : (s + s) / 2 = s := by omega
  rw [e2] at ha
  intro i j hi9 hj9
  show ((if a ≤ j ∧ j < b then q else en j) = (if a ≤ i ∧ i < b then q else en i) ↔ _)
  by_cases hir : a ≤ i ∧ i < b
  · rw [if_pos hir]
    show (_ = q ↔ j / 2 ^ (d - (if (if a ≤ i ∧ i < b then q else en i) = en i0 ∨ (if a ≤ i ∧ i < b then q else en i) = q then dp (en i0) + 1 else dp (if a ≤ i ∧ i < b then q else en i))) = i / 2 ^ (d - (if (if a ≤ i ∧ i < b then q else en i) = en i0 ∨ (if a ≤ i ∧ i < b then q else en i) = q then dp (en i0) + 1 else dp (if a ≤ i ∧ i < b then q else en i))))
    rw [if_pos hir, if_pos (Or.inr rfl), hs, (b1 i).mpr (by omega), b1 j]
    by_cases hjr : a ≤ j ∧ j < b
    · rw [if_pos hjr]
      exact ⟨fun _ => by omega, fun _ => rfl⟩
    · rw [if_neg hjr]
      exact ⟨fun e => absurd e (hq j hj9), fun e => absurd (by omega) hjr⟩
  · rw [if_neg hir]
    show (_ = en i ↔ j / 2 ^ (d - (if (if a ≤ i ∧ i < b then q else en i) = en i0 ∨ (if a ≤ i ∧ i < b then q else en i) = q then dp (en i0) + 1 else dp (if a ≤ i ∧ i < b then q else en i))) = i / 2 ^ (d - (if (if a ≤ i ∧ i < b then q else en i) = en i0 ∨ (if a ≤ i ∧ i < b then q else en i) = q then dp (en i0) + 1 else dp (if a ≤ i ∧ i < b then q else en i))))
    rw [if_neg hir]
    by_cases hp9 : en i = en i0
    · rw [if_pos (Or.inl hp9), hs]
      have hb9 := (blk i hi9).mp hp9
      rw [(b0 i).mpr (by omega), b0 j, hp9]
      by_cases hjr : a ≤ j ∧ j < b
      · rw [if_pos hjr]
        exact ⟨fun e => absurd e.symm hpq, fun e => absurd hjr (by omega)⟩
      · rw [if_neg hjr, blk j hj9]
        omega
    · rw [if_neg (show ¬ (en i = en i0 ∨ en i = q) from fun e => e.elim hp9 (hq i hi9)), ← h i j hi9 hj9]
      by_cases hjr : a ≤ j ∧ j < b
      · rw [if_pos hjr]
        have := (blk j hj9).mpr (by omega)
        rw [this]
        exact ⟨fun e => absurd e.symm (hq i hi9), fun e => absurd e.symm hp9⟩
      · rw [if_neg hjr]
theorem BS_merge {d : Nat} {en dp : Nat → Nat} (h : BS d en dp) {t D S kp lf : Nat} (hS : S = 2 ^ (d - D)) (hD1 : 1 ≤ D) (hDd : D ≤ d) (hle : (2 * t + 1) * S + S ≤ 2 ^ d) (hk : en (2 * t * S) = kp) (hl : en ((2 * t + 1) * S) = lf) (hkd : dp kp = D) (hld : dp lf = D) : BS d (fun i => if (2 * t + 1) * S ≤ i ∧ i < (2 * t + 1) * S + S then kp else en i) (fun e => if e = kp then D - 1 else dp e) := by
  have s0 : 0 < S := by rw [hS]; exact Nat.pow_pos (by decide)
  have hp2 : 2 ^ (d - (D - 1)) = S + S := by
    rw [hS, show d - (D - 1) = (d - D) + 1 by omega, Nat.pow_succ]
    omega
  have hS0 : 0 < S + S := by omega
  have e0 := two_mul_blk t S
  have e1 := two_mul_blk1 t S
  have h0 : 2 * t * S < 2 ^ d := by omega
  have h1 : (2 * t + 1) * S < 2 ^ d := by omega
  have bk : ∀ j, j < 2 ^ d → (en j = kp ↔ t * (S + S) ≤ j ∧ j < t * (S + S) + S) := by
    intro j hj
    rw [← hk, h _ j h0 hj, hk, hkd, ← hS, Nat.mul_div_cancel _ s0, div_blk s0, e0]
  have bl : ∀ j, j < 2 ^ d → (en j = lf ↔ t * (S + S) + S ≤ j ∧ j < t * (S + S) + S + S) := by
    intro j hj
    rw [← hl, h _ j h1 hj, hl, hld, ← hS, Nat.mul_div_cancel _ s0, div_blk s0, e1]
  have b2 : ∀ j, j / (S + S) = t ↔ t * (S + S) ≤ j ∧ j < t * (S + S) + (S + S) := fun j => div_blk hS0
  rw [e1] at hle ⊢
  generalize t * (S + S) = F at hle bk bl b2
  intro i j hi9 hj9
  show ((if F + S ≤ j ∧ j < F + S + S then kp else en j) = (if F + S ≤ i ∧ i < F + S + S then kp else en i) ↔ j / 2 ^ (d - (if (if F + S ≤ i ∧ i < F + S + S then kp else en i) = kp then D - 1 else dp (if F + S ≤ i ∧ i < F + S + S then kp else en i))) = i / 2 ^ (d - (if (if F + S ≤ i ∧ i < F + S + S then kp else en i) = kp then D - 1 else dp (if F + S ≤ i ∧ i < F + S + S then kp else en i))))
  have hin : (if F + S ≤ i ∧ i < F + S + S then kp else en i) = kp ↔ F ≤ i ∧ i < F + (S + S) := by
    by_cases hir : F + S ≤ i ∧ i < F + S + S
    · rw [if_pos hir]
      exact ⟨fun _ => by omega, fun _ => rfl⟩
    · rw [if_neg hir, bk i hi9]
      omega
  have hjn : (if F + S ≤ j ∧ j < F + S + S then kp else en j) = kp ↔ F ≤ j ∧ j < F + (S + S) := by
    by_cases hir : F + S ≤ j ∧ j < F + S + S
    · rw [if_pos hir]
      exact ⟨fun _ => by omega, fun _ => rfl⟩
    · rw [if_neg hir, bk j hj9]
      omega
  by_cases hk9 : (if F + S ≤ i ∧ i < F + S + S then kp else en i) = kp
  · rw [hk9, if_pos rfl, hjn, hp2, (b2 i).mpr (hin.mp hk9), b2 j]
  · rw [if_neg hk9]
    have hni : ¬ (F ≤ i ∧ i < F + (S + S)) := fun e => hk9 (hin.mpr e)
    rw [if_neg (show ¬ (F + S ≤ i ∧ i < F + S + S) by omega), ← h i j hi9 hj9]
    by_cases hjr : F + S ≤ j ∧ j < F + S + S
    · rw [if_pos hjr, (bl j hj9).mpr hjr]
      constructor
      · intro e
        exact absurd ((bk i hi9).mp e.symm) (by omega)
      · intro e
        exact absurd ((bl i hi9).mp e.symm) (by omega)
    · rw [if_neg hjr]
theorem BS_double {d : Nat} {en dp : Nat → Nat} (h : BS d en dp) (hd : ∀ i, i < 2 ^ d → dp (en i) ≤ d) : BS (d + 1) (fun i => en (i / 2)) dp := by
  intro i j hi hj
  rw [Nat.pow_succ] at hi hj
  have hi2 : i / 2 < 2 ^ d := by omega
  have hj2 : j / 2 < 2 ^ d := by omega
  have e : 2 ^ (d + 1 - dp (en (i / 2))) = 2 * 2 ^ (d - dp (en (i / 2))) := by
    have := hd _ hi2
    rw [show d + 1 - dp (en (i / 2)) = (d - dp (en (i / 2))) + 1 by omega, Nat.pow_succ, Nat.mul_comm]
  show (en (j / 2) = en (i / 2) ↔ j / 2 ^ (d + 1 - dp (en (i / 2))) = i / 2 ^ (d + 1 - dp (en (i / 2))))
  rw [h _ _ hi2 hj2, e, ← Nat.div_div_eq_div_mul, ← Nat.div_div_eq_div_mul]
theorem BS_halve {d : Nat} {en dp : Nat → Nat} (h : BS (d + 1) en dp) (hd : ∀ i, i < 2 ^ (d + 1) → dp (en i) ≤ d) : BS d (fun i => en (2 * i)) dp := by
  intro i j hi hj
  have hi2 : 2 * i < 2 ^ (d + 1) := by rw [Nat.pow_succ]; omega
  have hj2 : 2 * j < 2 ^ (d + 1) := by rw [Nat.pow_succ]; omega
  have e : 2 ^ (d + 1 - dp (en (2 * i))) = 2 * 2 ^ (d - dp (en (2 * i))) := by
    have := hd _ hi2
    rw [show d + 1 - dp (en (2 * i)) = (d - dp (en (2 * i))) + 1 by omega, Nat.pow_succ, Nat.mul_comm]
  show (en (2 * j) = en (2 * i) ↔ j / 2 ^ (d - dp (en (2 * i))) = i / 2 ^ (d - dp (en (2 * i))))
  rw [h _ _ hi2 hj2, e, Nat.mul_div_mul_left _ _ (by decide), Nat.mul_div_mul_left _ _ (by decide)]
theorem b_xor0 (t : Nat) : (2 * t) ^^^ 1 = 2 * t + 1 := by
  apply Nat.eq_of_testBit_eq
  intro j
  rw [Nat.testBit_xor]
  cases j with
  | zero =>
    rw [Nat.testBit_zero, Nat.testBit_zero, Nat.testBit_zero, show 2 * t % 2 = 0 by omega, show (2 * t + 1) % 2 = 1 by omega]
    rfl
  | succ j =>
    rw [Nat.testBit_succ, Nat.testBit_succ, Nat.testBit_succ, show 2 * t / 2 = t by omega, show (2 * t + 1) / 2 = t by omega, show 1 / 2 = 0 from rfl, Nat.zero_testBit, Bool.xor_false]
theorem b_xor1 (t : Nat) : (2 * t + 1) ^^^ 1 = 2 * t := by
  rw [← b_xor0, Nat.xor_assoc, Nat.xor_self, Nat.xor_zero]
theorem b_or0 (t : Nat) : (2 * t) ||| 1 = 2 * t + 1 := by
  apply Nat.eq_of_testBit_eq
  intro j
  rw [Nat.testBit_or]
  cases j with
  | zero =>
    rw [Nat.testBit_zero, Nat.testBit_zero, Nat.testBit_zero, show 2 * t % 2 = 0 by omega, show (2 * t + 1) % 2 = 1 by omega]
    rfl
  | succ j =>
    rw [Nat.testBit_succ, Nat.testBit_succ, Nat.testBit_succ, show 2 * t / 2 = t by omega, show (2 * t + 1) / 2 = t by omega, show 1 / 2 = 0 from rfl, Nat.zero_testBit, Bool.or_false]
theorem b_or1 (t : Nat) : (2 * t + 1) ||| 1 = 2 * t + 1 := by
  rw [← b_or0, Nat.or_assoc, Nat.or_self]
theorem b_and (i k : Nat) : i &&& 2 ^ k = (i / 2 ^ k % 2) * 2 ^ k := by
  apply Nat.eq_of_testBit_eq
  intro j
  rw [Nat.testBit_and, Nat.testBit_two_pow]
  rcases Nat.mod_two_eq_zero_or_one (i / 2 ^ k) with e | e
  · rw [e, Nat.zero_mul, Nat.zero_testBit]
    by_cases hk : k = j
    · subst hk
      rw [Nat.testBit_eq_decide_div_mod_eq, e]
      rfl
    · simp [hk]
  · rw [e, Nat.one_mul, Nat.testBit_two_pow]
    by_cases hk : k = j
    · subst hk
      rw [Nat.testBit_eq_decide_div_mod_eq, e]
      simp
    · simp [hk]
/-- the two blocks of a bucket and its buddy -/
theorem xor_blk (i k : Nat) : ∃ t, (i / 2 ^ k = 2 * t ∧ (i ^^^ 2 ^ k) / 2 ^ k = 2 * t + 1 ∧ i &&& 2 ^ k = 0 ∧ (i ||| 2 ^ k) / 2 ^ k = 2 * t + 1) ∨ (i / 2 ^ k = 2 * t + 1 ∧ (i ^^^ 2 ^ k) / 2 ^ k = 2 * t ∧ i &&& 2 ^ k ≠ 0 ∧ (i ||| 2 ^ k) / 2 ^ k = 2 * t + 1) := by
  have p0 : 0 < 2 ^ k := Nat.pow_pos (by decide)
  have x1 : (i ^^^ 2 ^ k) / 2 ^ k = (i / 2 ^ k) ^^^ 1 := by
    rw [← Nat.shiftRight_eq_div_pow, ← Nat.shiftRight_eq_div_pow, Nat.shiftRight_xor_distrib, Nat.shiftRight_eq_div_pow (2 ^ k) k, Nat.div_self p0]
  have x2 : (i ||| 2 ^ k) / 2 ^ k = (i / 2 ^ k) ||| 1 := by
    rw [← Nat.shiftRight_eq_div_pow, ← Nat.shiftRight_eq_div_pow, Nat.shiftRight_or_distrib, Nat.shiftRight_eq_div_pow (2 ^ k) k, Nat.div_self p0]
  refine ⟨i / 2 ^ k / 2, ?_⟩
  rw [x1, x2, b_and]
  generalize i / 2 ^ k = m
  rcases Nat.mod_two_eq_zero_or_one m with e | e
  · have e2 : m = 2 * (m / 2) := by omega
    refine Or.inl ⟨e2, ?_, by rw [e]; exact Nat.zero_mul _, ?_⟩
    · exact (congrArg (fun z => z ^^^ 1) e2).trans (b_xor0 _)
    · exact (congrArg (fun z => z ||| 1) e2).trans (b_or0 _)
  · have e2 : m = 2 * (m / 2) + 1 := by omega
    refine Or.inr ⟨e2, ?_, by rw [e]; omega, ?_⟩
    · exact (congrArg (fun z => z ^^^ 1) e2).trans (b_xor1 _)
    · exact (congrArg (fun z => z ||| 1) e2).trans (b_or1 _)
