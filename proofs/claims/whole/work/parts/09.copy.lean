/-! System.arraycopy between two rows of naturals; Math.min -/
def cpN (f g : Nat → Nat) (sp dp n : Nat) : Nat → Nat := fun k => if dp ≤ k ∧ k < dp + n then f (sp + (k - dp)) else g k
theorem cpN_eq (f g : Nat → Nat) (sp dp n : Nat) : va_cpy (fun j => iI ((f j : Nat) : Int)) (fun j => iI ((g j : Nat) : Int)) sp dp n = fun j => iI ((cpN f g sp dp n j : Nat) : Int) := by
  funext k
  simp only [va_cpy, cpN]
  split <;> rfl
theorem iI_min {a b : Int} (ha : in32 a) (hb : in32 b) : (if iI b < iI a then iI b else iI a) = iI (min a b) := by
  by_cases h : b < a
  · rw [if_pos ((iI_lt hb ha).mpr h), Int.min_def, if_neg (by omega)]
  · rw [if_neg (fun e => h ((iI_lt hb ha).mp e)), Int.min_def, if_pos (by omega)]
section VCP
variable {x : Kx} {cc : ByteArray} {nL : Nat} {own : String} {ret : Option FieldType} {D : va_G} {tys : List (ClassId × FieldType)} {rm : Room} {A : Nat → Prop} {wr : Bool} {cells slots : Nat} {ws : va_W} {pc n : Nat} {lv lv' : List (Nat × Value)} {st : List Value}
theorem v_copyN (k : Kf x cc nL own ret D tys rm) {i : Nat} (hl : Cond.methodLink own i arraycopyName ∈ TB) (q0 q1 t0 : Nat) {a0 a1 : Nat} {cA : ClassId} {n0 n1 : Nat} {f g : Nat → Nat} (ht : tys[t0]? = some (cA, .int)) (he0 : ws[q0]? = some (a0, .inl (cA, n0, .inl (fun j => iI ((f j : Nat) : Int))))) (he1 : ws[q1]? = some (a1, .inl (cA, n1, .inl (fun j => iI ((g j : Nat) : Int)))))
    {SP DP NN : Int} (sp dp nn : Nat) (h1 : SP = (sp : Int)) (h2 : DP = (dp : Int)) (h3 : NN = (nn : Int)) (h4 : sp + nn ≤ n0) (h5 : dp + nn ≤ n1) (hn0 : n0 < 2147483648) (hn1 : n1 < 2147483648) (hfr : 1 ≤ rm.frames) (hlo : (st.map fun v => v.category).sum + (nativeFrameWords "java/lang/System" "arraycopy" 5 + 11) ≤ rm.locals) (hd : decode cc pc = .ok (.invokestatic i, 3)) (hn : pc + 3 = n)
    (h : Vw x nL A D true cells slots (ws.set q1 (a1, .inl (cA, n1, .inl (fun j => iI ((cpN f g sp dp nn j : Nat) : Int))))) n lv st) : Vw x nL A D true cells slots ws pc lv (.int (iI NN) :: .int (iI DP) :: .ref a1 :: .int (iI SP) :: .ref a0 :: st) := by
  subst hn; subst h1; subst h2; subst h3
  intro H locs ls a' b' c d
  have e1 : (iI (sp : Int)).toNatClampNeg = sp := by rw [iI_clamp ⟨by omega, by omega⟩, Int.toNat_natCast]
  have e2 : (iI (dp : Int)).toNatClampNeg = dp := by rw [iI_clamp ⟨by omega, by omega⟩, Int.toNat_natCast]
  have e3 : (iI (nn : Int)).toNatClampNeg = nn := by rw [iI_clamp ⟨by omega, by omega⟩, Int.toNat_natCast]
  have z : in32 0 := ⟨by omega, by omega⟩
  have nn0 : ∀ y : Nat, y < 2147483648 → ¬ iI (y : Int) < 0 := fun y hy e => by
    have := (iI_lt (a := (y : Int)) ⟨by omega, by omega⟩ z).mp e
    omega
  have hfr' := hfr
  have hlo' := hlo
  rw [← k.2.2.2.2.2.2.2.2] at hfr' hlo'
  refine va_copyi k.1 k.2.1 (k.2.2.1.trans d.1.symm) k.2.2.2.1 (k.2.2.2.2.1 _ hl) (k.2.2.2.2.1 _ nm_arraycopyName) (k.2.2.2.2.1 _ sm_arraycopyName) (k.2.2.2.2.1 _ in_J10) k.2.2.2.2.2.2.2.1.1 a' b' c.1 q0 q1 t0 t0 he0 he1 ht ht rfl (nn0 sp (by omega)) (nn0 dp (by omega)) (nn0 nn (by omega)) (by rw [e1, e3]; exact h4) (by rw [e2, e3]; exact h5) (fun _ _ => rfl) hfr' hlo' hd (fun H1 l1 p1 d1 s1 => ?_)
  rw [e1, e2, e3, cpN_eq] at p1 d1
  exact h H1 l1 ls p1 d1 ⟨s1, fun h9 => by cases h9⟩ d
theorem v_min (k : Kf x cc nL own ret D tys rm) {i : Nat} (hl : Cond.methodLink own i Lib.Math.min.name ∈ TB) {a b : Int} (ha : in32 a) (hb : in32 b) (hfr : 1 ≤ rm.frames) (hlo : (st.map fun v => v.category).sum + 13 ≤ rm.locals) (hc : cells ≤ rm.cells) (hs : slots ≤ rm.slots) (hd : decode cc pc = .ok (.invokestatic i, 3)) (hn : pc + 3 = n)
    (h : Vw x nL A D wr cells slots ws n lv (.int (iI (min a b)) :: st)) : Vw x nL A D wr cells slots ws pc lv (.int (iI b) :: .int (iI a) :: st) := by
  subst hn
  intro H locs ls a' b' c d
  rw [← k.2.2.2.2.2.2.2.2] at hfr hlo hc hs
  refine va_mmin k.1 k.2.1 (k.2.2.1.trans d.1.symm) k.2.2.2.1 (k.2.2.2.2.1 _ hl) (k.2.2.2.2.1 _ sm_yJ9_min_7cf53) (k.2.2.2.2.1 _ in_J9) (k.2.2.2.2.1 _ cd_yJ9_min_7cf53) hfr hlo hc hs hd ?_
  rw [iI_min ha hb]
  exact h H locs ls a' b' c d
end VCP
