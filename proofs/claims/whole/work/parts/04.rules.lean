/-! my own layer: Vw hides heap, frame and locals; ints are iI of an Int -/
def iI (a : Int) : Int32 := Int32.ofInt a
def in32 (a : Int) : Prop := -2147483648 ≤ a ∧ a ≤ 2147483647
theorem iI_toInt {a : Int} (h : in32 a) : (iI a).toInt = a := by
  obtain ⟨h1, h2⟩ := h
  exact Int32.toInt_ofInt_of_le (by omega) (by omega)
theorem iI_of (x : Int32) : ∃ a : Int, in32 a ∧ x = iI a := by
  refine ⟨x.toInt, ⟨?_, ?_⟩, ?_⟩
  · have := Int32.le_toInt x; omega
  · have := Int32.toInt_lt x; omega
  · exact (Int32.ofInt_toInt x).symm
theorem iI_add (a b : Int) : iI a + iI b = iI (a + b) := (Int32.ofInt_add a b).symm
theorem iI_mul (a b : Int) : iI a * iI b = iI (a * b) := (Int32.ofInt_mul a b).symm
theorem iI_sub (a b : Int) : iI a - iI b = iI (a - b) := (Int32.ofInt_sub a b).symm
theorem iI_neg (a : Int) : -iI a = iI (-a) := (Int32.ofInt_neg a).symm
theorem iI_lt {a b : Int} (ha : in32 a) (hb : in32 b) : iI a < iI b ↔ a < b := by
  rw [Int32.lt_iff_toInt_lt, iI_toInt ha, iI_toInt hb]
theorem iI_le {a b : Int} (ha : in32 a) (hb : in32 b) : iI a ≤ iI b ↔ a ≤ b := by
  rw [Int32.le_iff_toInt_le, iI_toInt ha, iI_toInt hb]
theorem iI_eq {a b : Int} (ha : in32 a) (hb : in32 b) : iI a = iI b ↔ a = b := by
  constructor
  · intro h
    have := congrArg Int32.toInt h
    rwa [iI_toInt ha, iI_toInt hb] at this
  · intro h; rw [h]
theorem iI_nI (n : Nat) : nI n = iI n := rfl
theorem iI_clamp {a : Int} (h : in32 a) : (iI a).toNatClampNeg = a.toNat := by
  show (iI a).toInt.toNat = a.toNat
  rw [iI_toInt h]
theorem iI_in {a : Int} {n : Nat} (h : 0 ≤ a ∧ a < n) (hn : n < 2147483648) : vp_in (iI a) n := by
  have hi : in32 a := ⟨by omega, by omega⟩
  rw [vp_in_iff, iI_toInt hi]
  exact h
theorem iI_0 : iI 0 = 0 := rfl
theorem iI_ne0 {a : Int} (h : in32 a) (h0 : a ≠ 0) : ¬ iI a = 0 := by
  rw [← iI_0, iI_eq h ⟨by omega, by omega⟩]
  exact h0
def upI (g : Nat → Int) (k : Nat) (v : Int) : Nat → Int := fun j => if j = k then v else g j
theorem upI_eq (g : Nat → Int) (k : Nat) (v : Int) : upd (fun j => iI (g j)) k (iI v) = fun j => iI (upI g k v j) := by
  funext j
  simp only [upd, upI]
  split <;> rfl
def lvput (i : Nat) (v : Value) : List (Nat × Value) → List (Nat × Value)
  | [] => [(i, v)]
  | q :: l => match Nat.beq q.1 i with
    | true => (i, v) :: l
    | false => q :: lvput i v l
def lvget (i : Nat) : List (Nat × Value) → Option Value
  | [] => none
  | q :: l => match Nat.beq q.1 i with
    | true => some q.2
    | false => lvget i l
/-- the names are apart, and none is a second half: kept by every store -/
def lvok : List (Nat × Value) → Bool
  | [] => true
  | q :: l => l.all (fun r => !(Nat.beq r.1 q.1)) && lvok l
def wput : va_W → List Nat → va_W → va_W
  | ws, i :: is, c :: cs => wput (ws.set i c) is cs
  | ws, _, _ => ws
theorem lvget_mem {i : Nat} {v : Value} : ∀ {l : List (Nat × Value)}, lvget i l = some v → (i, v) ∈ l := by
  intro l
  induction l with
  | nil => intro h; cases h
  | cons q l ih =>
    intro h
    simp only [lvget] at h
    split at h
    · rename_i e
      cases h
      have : q.1 = i := Nat.eq_of_beq_eq_true e
      rw [← this]
      exact List.mem_cons_self
    · exact List.mem_cons_of_mem _ (ih h)
theorem lvput_sub {i : Nat} {v : Value} : ∀ {l : List (Nat × Value)}, lvok l = true → ∀ q ∈ lvput i v l, q = (i, v) ∨ (q ∈ l ∧ q.1 ≠ i) := by
  intro l
  induction l with
  | nil => intro _ q h; simp [lvput] at h; exact Or.inl h
  | cons r l ih =>
    intro hok q h
    simp only [lvok, Bool.and_eq_true, List.all_eq_true] at hok
    simp only [lvput] at h
    split at h
    · rename_i e
      have e1 : r.1 = i := Nat.eq_of_beq_eq_true e
      rcases List.mem_cons.mp h with h | h
      · exact Or.inl h
      · refine Or.inr ⟨List.mem_cons_of_mem _ h, fun e2 => ?_⟩
        have := hok.1 q h
        rw [e2, e1] at this
        simp at this
    · rename_i e
      rcases List.mem_cons.mp h with h | h
      · refine Or.inr ⟨by rw [h]; exact List.mem_cons_self, fun e2 => ?_⟩
        rw [h] at e2
        rw [e2] at e
        simp at e
      · rcases ih hok.2 q h with h | ⟨h, h2⟩
        · exact Or.inl h
        · exact Or.inr ⟨List.mem_cons_of_mem _ h, h2⟩
/-- a store's locals, by lvput -/
theorem lvput_has {ls : Array Slot} {nL i : Nat} {v : Value} {l : List (Nat × Value)} (hok : lvok l = true) (h2 : l.all (fun q => !(q.1 + 1 == i && q.2.category == 2)) = true)
    (h : lv_has ls nL ((i, v) :: l.filter (fun q => !(q.1 == i) && !(q.1 + 1 == i && q.2.category == 2)))) : lv_has ls nL (lvput i v l) := by
  refine ⟨h.1, h.2.1, fun q hq => h.2.2 q ?_⟩
  rcases lvput_sub hok q hq with e | ⟨hm, hne⟩
  · rw [e]; exact List.mem_cons_self
  · refine List.mem_cons_of_mem _ (List.mem_filter.mpr ⟨hm, ?_⟩)
    have h3 := List.all_eq_true.mp h2 q hm
    have h4 : (q.1 == i) = false := beq_false_of_ne hne
    rw [h4]
    exact h3
abbrev Kx : Type := Program × Launch × Env × Room × State × MethodId × Array Value × List Frame × Method × Code × (State → Prop)
/-- the frame so far -/
def Sx (wr : Bool) (A : Nat → Prop) (H0 H : Heap) (locs : List Loc) : Prop := va_S A H0 H locs ∧ (wr = false → H = H0 ∧ locs = [])
/-- (wr false: nothing was written yet, nor will be) -/
def Vw (x : Kx) (nL : Nat) (A : Nat → Prop) (D : va_G) (wr : Bool) (cells slots : Nat) (ws : va_W) (pc : Nat) (lv : List (Nat × Value)) (st : List Value) : Prop :=
  ∀ (H : Heap) (locs : List Loc) (ls : Array Slot), va_P D vwCl ws H → va_D A ws → Sx wr A x.2.2.2.2.1.heap H locs → lv_has ls nL lv →
    W x.1 x.2.1 x.2.2.1 x.2.2.2.1 x.2.2.2.2.1 x.2.2.2.2.2.1 x.2.2.2.2.2.2.1 x.2.2.2.2.2.2.2.1 x.2.2.2.2.2.2.2.2.1 x.2.2.2.2.2.2.2.2.2.1 H locs cells slots x.2.2.2.2.2.2.2.2.2.2 (F0 x.2.2.2.2.2.1 pc ls st)
/-- what is known for good of a state: the classes, the array classes, the words of nest mates -/
def Kn (D : va_G) (tys : List (ClassId × FieldType)) (U : State) : Prop := va_K D vwCl tys U ∧ ∀ w ∈ nestW, va_Nw w U
/-- what is known of the method that is walked -/
def Kf (x : Kx) (cc : ByteArray) (nL : Nat) (own : String) (ret : Option FieldType) (D : va_G) (tys : List (ClassId × FieldType)) (rm : Room) : Prop :=
  x.1.tables.exec = Jvm.exec ∧ x.2.2.2.2.2.2.2.2.2.1.code = cc ∧ x.2.2.2.2.2.2.2.2.2.1.maxLocals = nL ∧ x.2.2.2.2.1.vm.findClass own = some x.2.2.2.2.2.1.cls ∧ (∀ w ∈ TB, w.before x.2.2.2.2.2.2.1 x.2.2.2.2.1 = true) ∧
  x.2.2.2.2.2.2.2.2.1.sig.returnType = ret ∧ x.2.2.2.2.2.2.2.2.1.locks = false ∧ Kn D tys x.2.2.2.2.1 ∧ x.2.2.2.1 = rm
/-- what is known of a class of the worlds -/
def CI (ci : Nat) (C : String) (T : u_T) (ty : Nat → FieldType) (N : Nat) : Prop := vwCl[ci]? = some (C, T, N) ∧ (∀ w ∈ u_ws C T N, w ∈ TB) ∧ (∀ k, k < N → parseFieldDescriptor (T k).2.2.1 = some (ty k)) ∧ (∀ a, a < N → ∀ b, b < N → a ≠ b → (T a).2.1 ≠ (T b).2.1)
section VR
variable {x : Kx} {cc : ByteArray} {nL : Nat} {own : String} {ret : Option FieldType} {D : va_G} {tys : List (ClassId × FieldType)} {rm : Room} {A : Nat → Prop} {wr : Bool} {cells slots : Nat} {ws : va_W} {pc n : Nat} {lv lv' : List (Nat × Value)} {st : List Value}
theorem v_iconst (k : Kf x cc nL own ret D tys rm) {v : Int} (hd : decode cc pc = .ok (.iconst v, 1)) (hn : pc + 1 = n) (h : Vw x nL A D wr cells slots ws n lv (.int (iI v) :: st)) : Vw x nL A D wr cells slots ws pc lv (st) := by
  subst hn
  exact fun H locs ls a b c d => lv_iconst k.1 k.2.1 hd rfl (h H locs ls a b c d)
theorem v_bipush (k : Kf x cc nL own ret D tys rm) {v : Int} (hd : decode cc pc = .ok (.bipush v, 2)) (hv : (Int8.ofInt v).toInt32 = iI v) (hn : pc + 2 = n) (h : Vw x nL A D wr cells slots ws n lv (.int (iI v) :: st)) : Vw x nL A D wr cells slots ws pc lv (st) := by
  subst hn
  exact fun H locs ls a b c d => lv_bipush k.1 k.2.1 hd hv (h H locs ls a b c d)
theorem v_sipush (k : Kf x cc nL own ret D tys rm) {v : Int} (hd : decode cc pc = .ok (.sipush v, 3)) (hv : (Int16.ofInt v).toInt32 = iI v) (hn : pc + 3 = n) (h : Vw x nL A D wr cells slots ws n lv (.int (iI v) :: st)) : Vw x nL A D wr cells slots ws pc lv (st) := by
  subst hn
  exact fun H locs ls a b c d => lv_sipush k.1 k.2.1 hd hv (h H locs ls a b c d)
theorem v_ldc (k : Kf x cc nL own ret D tys rm) {i : Nat} {v : Int} (hc : Cond.constant own i (Int32.ofInt v) ∈ TB) (hd : decode cc pc = .ok (.ldc i, 2)) (hn : pc + 2 = n) (h : Vw x nL A D wr cells slots ws n lv (.int (iI v) :: st)) : Vw x nL A D wr cells slots ws pc lv (st) := by
  subst hn
  exact fun H locs ls a b c d => lv_ldc k.1 k.2.1 k.2.2.2.1 (k.2.2.2.2.1 _ hc) hd (h H locs ls a b c d)
theorem v_ldcw (k : Kf x cc nL own ret D tys rm) {i : Nat} {v : Int} (hc : Cond.constant own i (Int32.ofInt v) ∈ TB) (hd : decode cc pc = .ok (.ldc_w i, 3)) (hn : pc + 3 = n) (h : Vw x nL A D wr cells slots ws n lv (.int (iI v) :: st)) : Vw x nL A D wr cells slots ws pc lv (st) := by
  subst hn
  exact fun H locs ls a b c d => lv_ldcw k.1 k.2.1 k.2.2.2.1 (k.2.2.2.2.1 _ hc) hd (h H locs ls a b c d)
theorem v_iload_n (k : Kf x cc nL own ret D tys rm) {i : Fin 4} {v : Int32} (hd : decode cc pc = .ok (.iload_n i, 1)) (hn : pc + 1 = n) (hl : lvget i.val lv = some (.int v)) (h : Vw x nL A D wr cells slots ws n lv (.int v :: st)) : Vw x nL A D wr cells slots ws pc lv (st) := by
  subst hn
  exact fun H locs ls a b c d => lv_iload_n k.1 k.2.1 hd rfl (d.2.2 _ (lvget_mem hl)) (h H locs ls a b c d)
theorem v_iload (k : Kf x cc nL own ret D tys rm) {i : Nat} {v : Int32} (hd : decode cc pc = .ok (.iload i, 2)) (hn : pc + 2 = n) (hl : lvget i lv = some (.int v)) (h : Vw x nL A D wr cells slots ws n lv (.int v :: st)) : Vw x nL A D wr cells slots ws pc lv (st) := by
  subst hn
  exact fun H locs ls a b c d => lv_iload k.1 k.2.1 hd (d.2.2 _ (lvget_mem hl)) (h H locs ls a b c d)
theorem v_aload_n (k : Kf x cc nL own ret D tys rm) {i : Fin 4} {v : Nat} (hd : decode cc pc = .ok (.aload_n i, 1)) (hn : pc + 1 = n) (hl : lvget i.val lv = some (.ref v)) (h : Vw x nL A D wr cells slots ws n lv (.ref v :: st)) : Vw x nL A D wr cells slots ws pc lv (st) := by
  subst hn
  exact fun H locs ls a b c d => lv_aload_n k.1 k.2.1 hd rfl (d.2.2 _ (lvget_mem hl)) (h H locs ls a b c d)
theorem v_aload (k : Kf x cc nL own ret D tys rm) {i : Nat} {v : Nat} (hd : decode cc pc = .ok (.aload i, 2)) (hn : pc + 2 = n) (hl : lvget i lv = some (.ref v)) (h : Vw x nL A D wr cells slots ws n lv (.ref v :: st)) : Vw x nL A D wr cells slots ws pc lv (st) := by
  subst hn
  exact fun H locs ls a b c d => lv_aload k.1 k.2.1 hd (d.2.2 _ (lvget_mem hl)) (h H locs ls a b c d)
theorem v_lload_n (k : Kf x cc nL own ret D tys rm) {i : Fin 4} {v : Int64} (hd : decode cc pc = .ok (.lload_n i, 1)) (hn : pc + 1 = n) (hl : lvget i.val lv = some (.long v)) (h : Vw x nL A D wr cells slots ws n lv (.long v :: st)) : Vw x nL A D wr cells slots ws pc lv (st) := by
  subst hn
  exact fun H locs ls a b c d => lv_lload_n k.1 k.2.1 hd rfl (d.2.2 _ (lvget_mem hl)) (h H locs ls a b c d)
theorem v_lload (k : Kf x cc nL own ret D tys rm) {i : Nat} {v : Int64} (hd : decode cc pc = .ok (.lload i, 2)) (hn : pc + 2 = n) (hl : lvget i lv = some (.long v)) (h : Vw x nL A D wr cells slots ws n lv (.long v :: st)) : Vw x nL A D wr cells slots ws pc lv (st) := by
  subst hn
  exact fun H locs ls a b c d => lv_lload k.1 k.2.1 hd (d.2.2 _ (lvget_mem hl)) (h H locs ls a b c d)
theorem v_istore_n (k : Kf x cc nL own ret D tys rm) {i : Fin 4} {v : Int32} (hd : decode cc pc = .ok (.istore_n i, 1)) (hn : pc + 1 = n) (hi : i.val < nL) (hok : lvok lv = true) (h2 : lv.all (fun q => !(q.1 + 1 == i.val && q.2.category == 2)) = true) (h : Vw x nL A D wr cells slots ws n (lvput i.val (.int v) lv) (st)) : Vw x nL A D wr cells slots ws pc lv (.int v :: st) := by
  subst hn
  exact fun H locs ls a b c d => lv_istore_n k.1 k.2.1 hd rfl d hi rfl (fun ls' d' => h H locs ls' a b c (lvput_has hok h2 d'))
theorem v_istore (k : Kf x cc nL own ret D tys rm) {i : Nat} {v : Int32} (hd : decode cc pc = .ok (.istore i, 2)) (hn : pc + 2 = n) (hi : i < nL) (hok : lvok lv = true) (h2 : lv.all (fun q => !(q.1 + 1 == i && q.2.category == 2)) = true) (h : Vw x nL A D wr cells slots ws n (lvput i (.int v) lv) (st)) : Vw x nL A D wr cells slots ws pc lv (.int v :: st) := by
  subst hn
  exact fun H locs ls a b c d => lv_istore k.1 k.2.1 hd d hi rfl (fun ls' d' => h H locs ls' a b c (lvput_has hok h2 d'))
theorem v_astore_n (k : Kf x cc nL own ret D tys rm) {i : Fin 4} {v : Nat} (hd : decode cc pc = .ok (.astore_n i, 1)) (hn : pc + 1 = n) (hi : i.val < nL) (hok : lvok lv = true) (h2 : lv.all (fun q => !(q.1 + 1 == i.val && q.2.category == 2)) = true) (h : Vw x nL A D wr cells slots ws n (lvput i.val (.ref v) lv) (st)) : Vw x nL A D wr cells slots ws pc lv (.ref v :: st) := by
  subst hn
  exact fun H locs ls a b c d => lv_astore_n k.1 k.2.1 hd rfl d hi rfl (fun ls' d' => h H locs ls' a b c (lvput_has hok h2 d'))
theorem v_astore (k : Kf x cc nL own ret D tys rm) {i : Nat} {v : Nat} (hd : decode cc pc = .ok (.astore i, 2)) (hn : pc + 2 = n) (hi : i < nL) (hok : lvok lv = true) (h2 : lv.all (fun q => !(q.1 + 1 == i && q.2.category == 2)) = true) (h : Vw x nL A D wr cells slots ws n (lvput i (.ref v) lv) (st)) : Vw x nL A D wr cells slots ws pc lv (.ref v :: st) := by
  subst hn
  exact fun H locs ls a b c d => lv_astore k.1 k.2.1 hd d hi rfl (fun ls' d' => h H locs ls' a b c (lvput_has hok h2 d'))
theorem v_iinc (k : Kf x cc nL own ret D tys rm) {i : Nat} {a0 b0 : Int} (hd : decode cc pc = .ok (.iinc i b0, 3)) (hn : pc + 3 = n) (hi : i < nL) (hk : lvget i lv = some (.int (iI a0))) (hok : lvok lv = true) (h2 : lv.all (fun q => !(q.1 + 1 == i && q.2.category == 2)) = true) (h : Vw x nL A D wr cells slots ws n (lvput i (.int (iI (a0 + b0))) lv) (st)) : Vw x nL A D wr cells slots ws pc lv (st) := by
  subst hn
  intro H locs ls a b c d
  obtain ⟨j, hj⟩ := List.getElem?_of_mem (lvget_mem hk)
  exact lv_iinc k.1 k.2.1 hd d hj (iI_add a0 b0) hi rfl (fun ls' d' => h H locs ls' a b c (lvput_has hok h2 d'))
theorem v_iadd (k : Kf x cc nL own ret D tys rm) {a b : Int} (hd : decode cc pc = .ok (.iadd, 1)) (hn : pc + 1 = n) (h : Vw x nL A D wr cells slots ws n lv (.int (iI (a + b)) :: st)) : Vw x nL A D wr cells slots ws pc lv (.int (iI b) :: .int (iI a) :: st) := by
  subst hn
  exact fun H locs ls a' b' c d => lv_iadd k.1 k.2.1 hd (by rw [iI_add]; exact h H locs ls a' b' c d)
theorem v_isub (k : Kf x cc nL own ret D tys rm) {a b : Int} (hd : decode cc pc = .ok (.isub, 1)) (hn : pc + 1 = n) (h : Vw x nL A D wr cells slots ws n lv (.int (iI (a - b)) :: st)) : Vw x nL A D wr cells slots ws pc lv (.int (iI b) :: .int (iI a) :: st) := by
  subst hn
  exact fun H locs ls a' b' c d => lv_isub k.1 k.2.1 hd (by rw [iI_sub]; exact h H locs ls a' b' c d)
theorem v_imul (k : Kf x cc nL own ret D tys rm) {a b : Int} (hd : decode cc pc = .ok (.imul, 1)) (hn : pc + 1 = n) (h : Vw x nL A D wr cells slots ws n lv (.int (iI (a * b)) :: st)) : Vw x nL A D wr cells slots ws pc lv (.int (iI b) :: .int (iI a) :: st) := by
  subst hn
  exact fun H locs ls a' b' c d => lv_imul k.1 k.2.1 hd (by rw [iI_mul]; exact h H locs ls a' b' c d)
theorem v_ineg (k : Kf x cc nL own ret D tys rm) {a : Int} (hd : decode cc pc = .ok (.ineg, 1)) (hn : pc + 1 = n) (h : Vw x nL A D wr cells slots ws n lv (.int (iI (-a)) :: st)) : Vw x nL A D wr cells slots ws pc lv (.int (iI a) :: st) := by
  subst hn
  exact fun H locs ls a' b' c d => lv_ineg k.1 k.2.1 hd (by rw [iI_neg]; exact h H locs ls a' b' c d)
theorem v_iand (k : Kf x cc nL own ret D tys rm) {a b : Int} (r : Int) (he : iI a &&& iI b = iI r) (hd : decode cc pc = .ok (.iand, 1)) (hn : pc + 1 = n) (h : Vw x nL A D wr cells slots ws n lv (.int (iI r) :: st)) : Vw x nL A D wr cells slots ws pc lv (.int (iI b) :: .int (iI a) :: st) := by
  subst hn
  exact fun H locs ls a' b' c d => lv_iand k.1 k.2.1 hd (by rw [he]; exact h H locs ls a' b' c d)
theorem v_ior (k : Kf x cc nL own ret D tys rm) {a b : Int} (r : Int) (he : iI a ||| iI b = iI r) (hd : decode cc pc = .ok (.ior, 1)) (hn : pc + 1 = n) (h : Vw x nL A D wr cells slots ws n lv (.int (iI r) :: st)) : Vw x nL A D wr cells slots ws pc lv (.int (iI b) :: .int (iI a) :: st) := by
  subst hn
  exact fun H locs ls a' b' c d => lv_ior k.1 k.2.1 hd (by rw [he]; exact h H locs ls a' b' c d)
theorem v_ixor (k : Kf x cc nL own ret D tys rm) {a b : Int} (r : Int) (he : iI a ^^^ iI b = iI r) (hd : decode cc pc = .ok (.ixor, 1)) (hn : pc + 1 = n) (h : Vw x nL A D wr cells slots ws n lv (.int (iI r) :: st)) : Vw x nL A D wr cells slots ws pc lv (.int (iI b) :: .int (iI a) :: st) := by
  subst hn
  exact fun H locs ls a' b' c d => lv_ixor k.1 k.2.1 hd (by rw [he]; exact h H locs ls a' b' c d)
theorem v_ishl (k : Kf x cc nL own ret D tys rm) {a b : Int} (r : Int) (he : iI a <<< (iI b &&& 31) = iI r) (hd : decode cc pc = .ok (.ishl, 1)) (hn : pc + 1 = n) (h : Vw x nL A D wr cells slots ws n lv (.int (iI r) :: st)) : Vw x nL A D wr cells slots ws pc lv (.int (iI b) :: .int (iI a) :: st) := by
  subst hn
  exact fun H locs ls a' b' c d => lv_ishl k.1 k.2.1 hd (by rw [he]; exact h H locs ls a' b' c d)
theorem v_ishr (k : Kf x cc nL own ret D tys rm) {a b : Int} (r : Int) (he : iI a >>> (iI b &&& 31) = iI r) (hd : decode cc pc = .ok (.ishr, 1)) (hn : pc + 1 = n) (h : Vw x nL A D wr cells slots ws n lv (.int (iI r) :: st)) : Vw x nL A D wr cells slots ws pc lv (.int (iI b) :: .int (iI a) :: st) := by
  subst hn
  exact fun H locs ls a' b' c d => lv_ishr k.1 k.2.1 hd (by rw [he]; exact h H locs ls a' b' c d)
theorem v_idiv (k : Kf x cc nL own ret D tys rm) {a b : Int} (r : Int) (hb : ¬ iI b = 0) (he : iI a / iI b = iI r) (hd : decode cc pc = .ok (.idiv, 1)) (hn : pc + 1 = n) (h : Vw x nL A D wr cells slots ws n lv (.int (iI r) :: st)) : Vw x nL A D wr cells slots ws pc lv (.int (iI b) :: .int (iI a) :: st) := by
  subst hn
  exact fun H locs ls a' b' c d => lv_idiv k.1 k.2.1 hd hb (by rw [he]; exact h H locs ls a' b' c d)
theorem v_irem (k : Kf x cc nL own ret D tys rm) {a b : Int} (r : Int) (hb : ¬ iI b = 0) (he : iI a - iI a / iI b * iI b = iI r) (hd : decode cc pc = .ok (.irem, 1)) (hn : pc + 1 = n) (h : Vw x nL A D wr cells slots ws n lv (.int (iI r) :: st)) : Vw x nL A D wr cells slots ws pc lv (.int (iI b) :: .int (iI a) :: st) := by
  subst hn
  exact fun H locs ls a' b' c d => lv_irem k.1 k.2.1 hd hb (by rw [he]; exact h H locs ls a' b' c d)
theorem v_i2b (k : Kf x cc nL own ret D tys rm) {a : Int} (r : Int) (he : (iI a).toInt8.toInt32 = iI r) (hd : decode cc pc = .ok (.i2b, 1)) (hn : pc + 1 = n) (h : Vw x nL A D wr cells slots ws n lv (.int (iI r) :: st)) : Vw x nL A D wr cells slots ws pc lv (.int (iI a) :: st) := by
  subst hn
  exact fun H locs ls a' b' c d => lv_i2b k.1 k.2.1 hd he (h H locs ls a' b' c d)
theorem v_icmp_lt (k : Kf x cc nL own ret D tys rm) {a b : Int} {off : Int} {t : Nat} (ha : in32 a) (hb : in32 b) (hd : decode cc pc = .ok (.if_icmp .lt off, 3)) (ht : (pc : Int) + off = (t : Int)) (hn : pc + 3 = n) (h1 : a < b → Vw x nL A D wr cells slots ws t lv (st)) (h2 : ¬ a < b → Vw x nL A D wr cells slots ws n lv (st)) : Vw x nL A D wr cells slots ws pc lv (.int (iI b) :: .int (iI a) :: st) := by
  subst hn
  exact fun H locs ls a' b' c d => lv_icmp_lt k.1 k.2.1 hd ht (fun e => h1 ((iI_lt ha hb).mp e) H locs ls a' b' c d) (fun e => h2 (fun e2 => e ((iI_lt ha hb).mpr e2)) H locs ls a' b' c d)
theorem v_icmp_ge (k : Kf x cc nL own ret D tys rm) {a b : Int} {off : Int} {t : Nat} (ha : in32 a) (hb : in32 b) (hd : decode cc pc = .ok (.if_icmp .ge off, 3)) (ht : (pc : Int) + off = (t : Int)) (hn : pc + 3 = n) (h1 : b ≤ a → Vw x nL A D wr cells slots ws t lv (st)) (h2 : ¬ b ≤ a → Vw x nL A D wr cells slots ws n lv (st)) : Vw x nL A D wr cells slots ws pc lv (.int (iI b) :: .int (iI a) :: st) := by
  subst hn
  exact fun H locs ls a' b' c d => lv_icmp_ge k.1 k.2.1 hd ht (fun e => h1 ((iI_le hb ha).mp e) H locs ls a' b' c d) (fun e => h2 (fun e2 => e ((iI_le hb ha).mpr e2)) H locs ls a' b' c d)
theorem v_icmp_gt (k : Kf x cc nL own ret D tys rm) {a b : Int} {off : Int} {t : Nat} (ha : in32 a) (hb : in32 b) (hd : decode cc pc = .ok (.if_icmp .gt off, 3)) (ht : (pc : Int) + off = (t : Int)) (hn : pc + 3 = n) (h1 : b < a → Vw x nL A D wr cells slots ws t lv (st)) (h2 : ¬ b < a → Vw x nL A D wr cells slots ws n lv (st)) : Vw x nL A D wr cells slots ws pc lv (.int (iI b) :: .int (iI a) :: st) := by
  subst hn
  exact fun H locs ls a' b' c d => lv_icmp_gt k.1 k.2.1 hd ht (fun e => h1 ((iI_lt hb ha).mp e) H locs ls a' b' c d) (fun e => h2 (fun e2 => e ((iI_lt hb ha).mpr e2)) H locs ls a' b' c d)
theorem v_icmp_le (k : Kf x cc nL own ret D tys rm) {a b : Int} {off : Int} {t : Nat} (ha : in32 a) (hb : in32 b) (hd : decode cc pc = .ok (.if_icmp .le off, 3)) (ht : (pc : Int) + off = (t : Int)) (hn : pc + 3 = n) (h1 : a ≤ b → Vw x nL A D wr cells slots ws t lv (st)) (h2 : ¬ a ≤ b → Vw x nL A D wr cells slots ws n lv (st)) : Vw x nL A D wr cells slots ws pc lv (.int (iI b) :: .int (iI a) :: st) := by
  subst hn
  exact fun H locs ls a' b' c d => lv_icmp_le k.1 k.2.1 hd ht (fun e => h1 ((iI_le ha hb).mp e) H locs ls a' b' c d) (fun e => h2 (fun e2 => e ((iI_le ha hb).mpr e2)) H locs ls a' b' c d)
theorem v_icmp_eq (k : Kf x cc nL own ret D tys rm) {a b : Int} {off : Int} {t : Nat} (ha : in32 a) (hb : in32 b) (hd : decode cc pc = .ok (.if_icmp .eq off, 3)) (ht : (pc : Int) + off = (t : Int)) (hn : pc + 3 = n) (h1 : a = b → Vw x nL A D wr cells slots ws t lv (st)) (h2 : ¬ a = b → Vw x nL A D wr cells slots ws n lv (st)) : Vw x nL A D wr cells slots ws pc lv (.int (iI b) :: .int (iI a) :: st) := by
  subst hn
  exact fun H locs ls a' b' c d => lv_icmp_eq k.1 k.2.1 hd ht (fun e => h1 ((iI_eq ha hb).mp e) H locs ls a' b' c d) (fun e => h2 (fun e2 => e ((iI_eq ha hb).mpr e2)) H locs ls a' b' c d)
theorem v_icmp_ne (k : Kf x cc nL own ret D tys rm) {a b : Int} {off : Int} {t : Nat} (ha : in32 a) (hb : in32 b) (hd : decode cc pc = .ok (.if_icmp .ne off, 3)) (ht : (pc : Int) + off = (t : Int)) (hn : pc + 3 = n) (h1 : ¬ a = b → Vw x nL A D wr cells slots ws t lv (st)) (h2 : a = b → Vw x nL A D wr cells slots ws n lv (st)) : Vw x nL A D wr cells slots ws pc lv (.int (iI b) :: .int (iI a) :: st) := by
  subst hn
  exact fun H locs ls a' b' c d => lv_icmp_ne k.1 k.2.1 hd ht (fun e => h1 (fun e2 => e ((iI_eq ha hb).mpr e2)) H locs ls a' b' c d) (fun e => h2 ((iI_eq ha hb).mp e) H locs ls a' b' c d)
theorem v_if_lt (k : Kf x cc nL own ret D tys rm) {a : Int} {off : Int} {t : Nat} (ha : in32 a) (hd : decode cc pc = .ok (.ifCond .lt off, 3)) (ht : (pc : Int) + off = (t : Int)) (hn : pc + 3 = n) (h1 : a < 0 → Vw x nL A D wr cells slots ws t lv (st)) (h2 : ¬ a < 0 → Vw x nL A D wr cells slots ws n lv (st)) : Vw x nL A D wr cells slots ws pc lv (.int (iI a) :: st) := by
  subst hn
  have z : in32 0 := ⟨by omega, by omega⟩
  exact fun H locs ls a' b' c d => lv_if_lt k.1 k.2.1 hd ht (fun e => h1 ((iI_lt ha z).mp e) H locs ls a' b' c d) (fun e => h2 (fun e2 => e ((iI_lt ha z).mpr e2)) H locs ls a' b' c d)
theorem v_if_ge (k : Kf x cc nL own ret D tys rm) {a : Int} {off : Int} {t : Nat} (ha : in32 a) (hd : decode cc pc = .ok (.ifCond .ge off, 3)) (ht : (pc : Int) + off = (t : Int)) (hn : pc + 3 = n) (h1 : 0 ≤ a → Vw x nL A D wr cells slots ws t lv (st)) (h2 : ¬ 0 ≤ a → Vw x nL A D wr cells slots ws n lv (st)) : Vw x nL A D wr cells slots ws pc lv (.int (iI a) :: st) := by
  subst hn
  have z : in32 0 := ⟨by omega, by omega⟩
  exact fun H locs ls a' b' c d => lv_if_ge k.1 k.2.1 hd ht (fun e => h1 ((iI_le z ha).mp e) H locs ls a' b' c d) (fun e => h2 (fun e2 => e ((iI_le z ha).mpr e2)) H locs ls a' b' c d)
theorem v_if_gt (k : Kf x cc nL own ret D tys rm) {a : Int} {off : Int} {t : Nat} (ha : in32 a) (hd : decode cc pc = .ok (.ifCond .gt off, 3)) (ht : (pc : Int) + off = (t : Int)) (hn : pc + 3 = n) (h1 : 0 < a → Vw x nL A D wr cells slots ws t lv (st)) (h2 : ¬ 0 < a → Vw x nL A D wr cells slots ws n lv (st)) : Vw x nL A D wr cells slots ws pc lv (.int (iI a) :: st) := by
  subst hn
  have z : in32 0 := ⟨by omega, by omega⟩
  exact fun H locs ls a' b' c d => lv_if_gt k.1 k.2.1 hd ht (fun e => h1 ((iI_lt z ha).mp e) H locs ls a' b' c d) (fun e => h2 (fun e2 => e ((iI_lt z ha).mpr e2)) H locs ls a' b' c d)
theorem v_if_le (k : Kf x cc nL own ret D tys rm) {a : Int} {off : Int} {t : Nat} (ha : in32 a) (hd : decode cc pc = .ok (.ifCond .le off, 3)) (ht : (pc : Int) + off = (t : Int)) (hn : pc + 3 = n) (h1 : a ≤ 0 → Vw x nL A D wr cells slots ws t lv (st)) (h2 : ¬ a ≤ 0 → Vw x nL A D wr cells slots ws n lv (st)) : Vw x nL A D wr cells slots ws pc lv (.int (iI a) :: st) := by
  subst hn
  have z : in32 0 := ⟨by omega, by omega⟩
  exact fun H locs ls a' b' c d => lv_if_le k.1 k.2.1 hd ht (fun e => h1 ((iI_le ha z).mp e) H locs ls a' b' c d) (fun e => h2 (fun e2 => e ((iI_le ha z).mpr e2)) H locs ls a' b' c d)
theorem v_if_eq (k : Kf x cc nL own ret D tys rm) {a : Int} {off : Int} {t : Nat} (ha : in32 a) (hd : decode cc pc = .ok (.ifCond .eq off, 3)) (ht : (pc : Int) + off = (t : Int)) (hn : pc + 3 = n) (h1 : a = 0 → Vw x nL A D wr cells slots ws t lv (st)) (h2 : ¬ a = 0 → Vw x nL A D wr cells slots ws n lv (st)) : Vw x nL A D wr cells slots ws pc lv (.int (iI a) :: st) := by
  subst hn
  have z : in32 0 := ⟨by omega, by omega⟩
  exact fun H locs ls a' b' c d => lv_if_eq k.1 k.2.1 hd ht (fun e => h1 ((iI_eq ha z).mp e) H locs ls a' b' c d) (fun e => h2 (fun e2 => e ((iI_eq ha z).mpr e2)) H locs ls a' b' c d)
theorem v_if_ne (k : Kf x cc nL own ret D tys rm) {a : Int} {off : Int} {t : Nat} (ha : in32 a) (hd : decode cc pc = .ok (.ifCond .ne off, 3)) (ht : (pc : Int) + off = (t : Int)) (hn : pc + 3 = n) (h1 : ¬ a = 0 → Vw x nL A D wr cells slots ws t lv (st)) (h2 : a = 0 → Vw x nL A D wr cells slots ws n lv (st)) : Vw x nL A D wr cells slots ws pc lv (.int (iI a) :: st) := by
  subst hn
  have z : in32 0 := ⟨by omega, by omega⟩
  exact fun H locs ls a' b' c d => lv_if_ne k.1 k.2.1 hd ht (fun e => h1 (fun e2 => e ((iI_eq ha z).mpr e2)) H locs ls a' b' c d) (fun e => h2 ((iI_eq ha z).mp e) H locs ls a' b' c d)
theorem v_goto (k : Kf x cc nL own ret D tys rm) {off : Int} {t : Nat} (hd : decode cc pc = .ok (.goto off, 3)) (ht : (pc : Int) + off = (t : Int)) (h : Vw x nL A D wr cells slots ws t lv (st)) : Vw x nL A D wr cells slots ws pc lv (st) := by
  exact fun H locs ls a' b' c d => lv_goto k.1 k.2.1 hd ht (h H locs ls a' b' c d)
theorem v_dup (k : Kf x cc nL own ret D tys rm) {v : Value} (hv : v.category = 1) (hd : decode cc pc = .ok (.dup, 1)) (hn : pc + 1 = n) (h : Vw x nL A D wr cells slots ws n lv (v :: v :: st)) : Vw x nL A D wr cells slots ws pc lv (v :: st) := by
  subst hn
  exact fun H locs ls a' b' c d => lv_dup k.1 k.2.1 hd hv (h H locs ls a' b' c d)
theorem v_pop (k : Kf x cc nL own ret D tys rm) {v : Value} (hv : v.category = 1) (hd : decode cc pc = .ok (.pop, 1)) (hn : pc + 1 = n) (h : Vw x nL A D wr cells slots ws n lv (st)) : Vw x nL A D wr cells slots ws pc lv (v :: st) := by
  subst hn
  exact fun H locs ls a' b' c d => lv_pop k.1 k.2.1 hd hv (h H locs ls a' b' c d)
theorem v_dup2 (k : Kf x cc nL own ret D tys rm) {v u : Value} (hv : v.category = 1) (hu : u.category = 1) (hd : decode cc pc = .ok (.dup2, 1)) (hn : pc + 1 = n) (h : Vw x nL A D wr cells slots ws n lv (v :: u :: v :: u :: st)) : Vw x nL A D wr cells slots ws pc lv (v :: u :: st) := by
  subst hn
  exact fun H locs ls a' b' c d => lv_dup2_11 k.1 k.2.1 hd hv hu (h H locs ls a' b' c d)
theorem v_get (k : Kf x cc nL own ret D tys rm) {C : String} {T : u_T} {ty : Nat → FieldType} {N ci i a : Nat} {fs : List Value} {v : Value} (hc : CI ci C T ty N) (q0 f : Nat) (hf : f < N) (hl : Cond.fieldLink own i (T f).1 (T f).2.1 (T f).2.2.1 ∈ TB) (he : ws[q0]? = some (a, .inr (ci, fs))) (hv : fs[f]? = some v) (hd : decode cc pc = .ok (.getfield i, 3)) (hn : pc + 3 = n) (h : Vw x nL A D wr cells slots ws n lv (v :: st)) : Vw x nL A D wr cells slots ws pc lv (.ref a :: st) := by
  subst hn
  exact fun H locs ls a' b' c d => va_get k.1 k.2.1 k.2.2.2.2.1 hc.2.1 k.2.2.2.1 k.2.2.2.2.2.2.2.1.1 a' q0 he hc.1 f hf (k.2.2.2.2.1 _ hl) (fun _ h9 => h9) hv hd (h H locs ls a' b' c d)
theorem v_put (k : Kf x cc nL own ret D tys rm) {C : String} {T : u_T} {ty : Nat → FieldType} {N ci i a : Nat} {fs : List Value} {v : Value} (hc : CI ci C T ty N) (q0 f : Nat) (hf : f < N) (hl : Cond.fieldLink own i (T f).1 (T f).2.1 (T f).2.2.1 ∈ TB) (he : ws[q0]? = some (a, .inr (ci, fs))) (hfin : (T f).2.2.2 = false) (hnr : narrow (ty f) v = v) (hft : fits (ty f) v = true) (hlen : f < fs.length) (hd : decode cc pc = .ok (.putfield i, 3)) (hn : pc + 3 = n) (h : Vw x nL A D true cells slots (ws.set q0 (a, .inr (ci, fs.set f v))) n lv (st)) : Vw x nL A D true cells slots ws pc lv (v :: .ref a :: st) := by
  subst hn
  exact fun H locs ls a' b' c d => va_put k.1 k.2.1 k.2.2.2.2.1 hc.2.1 ty hc.2.2.1 hc.2.2.2 k.2.2.2.1 k.2.2.2.2.2.2.2.1.1 a' b' c.1 q0 he hc.1 f hf (k.2.2.2.2.1 _ hl) (fun _ h9 => h9) hfin (hc.2.2.1 f hf) hnr hft hlen hd (fun H1 l1 p1 d1 s1 => h H1 l1 ls p1 d1 ⟨s1, fun h9 => by cases h9⟩ d)
theorem v_iald (k : Kf x cc nL own ret D tys rm) (q0 t0 : Nat) {cA : ClassId} {N a : Nat} {g : Nat → Int} {i : Int} (ht : tys[t0]? = some (cA, .int)) (he : ws[q0]? = some (a, .inl (cA, N, .inl (fun j => iI (g j))))) (hin : 0 ≤ i ∧ i < N) (hN : N < 2147483648) (hd : decode cc pc = .ok (.iaload, 1)) (hn : pc + 1 = n) (h : Vw x nL A D wr cells slots ws n lv (.int (iI (g i.toNat)) :: st)) : Vw x nL A D wr cells slots ws pc lv (.int (iI i) :: .ref a :: st) := by
  subst hn
  have hc : (iI i).toNatClampNeg = i.toNat := iI_clamp ⟨by omega, by omega⟩
  exact fun H locs ls a' b' c d => va_iald k.1 k.2.1 k.2.2.2.2.2.2.2.1.1 a' q0 t0 he ht (iI_in hin hN) hd (by rw [hc]; exact h H locs ls a' b' c d)
theorem v_bald (k : Kf x cc nL own ret D tys rm) (q0 t0 : Nat) {cA : ClassId} {N a : Nat} {g : Nat → Int} {i : Int} (ht : tys[t0]? = some (cA, .byte)) (he : ws[q0]? = some (a, .inl (cA, N, .inl (fun j => iI (g j))))) (hin : 0 ≤ i ∧ i < N) (hN : N < 2147483648) (hd : decode cc pc = .ok (.baload, 1)) (hn : pc + 1 = n) (h : Vw x nL A D wr cells slots ws n lv (.int (iI (g i.toNat)) :: st)) : Vw x nL A D wr cells slots ws pc lv (.int (iI i) :: .ref a :: st) := by
  subst hn
  have hc : (iI i).toNatClampNeg = i.toNat := iI_clamp ⟨by omega, by omega⟩
  exact fun H locs ls a' b' c d => va_bald k.1 k.2.1 k.2.2.2.2.2.2.2.1.1 a' q0 t0 he ht (iI_in hin hN) hd (by rw [hc]; exact h H locs ls a' b' c d)
theorem v_zald (k : Kf x cc nL own ret D tys rm) (q0 t0 : Nat) {cA : ClassId} {N a : Nat} {g : Nat → Int} {i : Int} (ht : tys[t0]? = some (cA, .boolean)) (he : ws[q0]? = some (a, .inl (cA, N, .inl (fun j => iI (g j))))) (hin : 0 ≤ i ∧ i < N) (hN : N < 2147483648) (hd : decode cc pc = .ok (.baload, 1)) (hn : pc + 1 = n) (h : Vw x nL A D wr cells slots ws n lv (.int (iI (g i.toNat)) :: st)) : Vw x nL A D wr cells slots ws pc lv (.int (iI i) :: .ref a :: st) := by
  subst hn
  have hc : (iI i).toNatClampNeg = i.toNat := iI_clamp ⟨by omega, by omega⟩
  exact fun H locs ls a' b' c d => va_zald k.1 k.2.1 k.2.2.2.2.2.2.2.1.1 a' q0 t0 he ht (iI_in hin hN) hd (by rw [hc]; exact h H locs ls a' b' c d)
theorem v_iast (k : Kf x cc nL own ret D tys rm) (q0 t0 : Nat) {cA : ClassId} {N a : Nat} {g : Nat → Int} {i : Int} (ht : tys[t0]? = some (cA, .int)) (he : ws[q0]? = some (a, .inl (cA, N, .inl (fun j => iI (g j))))) (hin : 0 ≤ i ∧ i < N) (hN : N < 2147483648) {v : Int} (hd : decode cc pc = .ok (.iastore, 1)) (hn : pc + 1 = n) (h : Vw x nL A D true cells slots (ws.set q0 (a, .inl (cA, N, .inl (fun j => iI (upI g i.toNat v j))))) n lv (st)) : Vw x nL A D true cells slots ws pc lv (.int (iI v) :: .int (iI i) :: .ref a :: st) := by
  subst hn
  have hc : (iI i).toNatClampNeg = i.toNat := iI_clamp ⟨by omega, by omega⟩
  refine fun H locs ls a' b' c d => va_iast k.1 k.2.1 k.2.2.2.2.2.2.2.1.1 a' b' c.1 q0 t0 he ht (iI_in hin hN) hd (fun H1 l1 p1 d1 s1 => ?_)
  rw [hc, upI_eq] at p1 d1
  exact h H1 l1 ls p1 d1 ⟨s1, fun h9 => by cases h9⟩ d
theorem v_bast (k : Kf x cc nL own ret D tys rm) (q0 t0 : Nat) {cA : ClassId} {N a : Nat} {g : Nat → Int} {i : Int} (ht : tys[t0]? = some (cA, .byte)) (he : ws[q0]? = some (a, .inl (cA, N, .inl (fun j => iI (g j))))) (hin : 0 ≤ i ∧ i < N) (hN : N < 2147483648) {v : Int} (r : Int) (hr : vp_nar .byte (iI v) = iI r) (hd : decode cc pc = .ok (.bastore, 1)) (hn : pc + 1 = n) (h : Vw x nL A D true cells slots (ws.set q0 (a, .inl (cA, N, .inl (fun j => iI (upI g i.toNat r j))))) n lv (st)) : Vw x nL A D true cells slots ws pc lv (.int (iI v) :: .int (iI i) :: .ref a :: st) := by
  subst hn
  have hc : (iI i).toNatClampNeg = i.toNat := iI_clamp ⟨by omega, by omega⟩
  refine fun H locs ls a' b' c d => va_bast k.1 k.2.1 k.2.2.2.2.2.2.2.1.1 a' b' c.1 q0 t0 he ht (iI_in hin hN) hd (fun H1 l1 p1 d1 s1 => ?_)
  rw [hc, hr, upI_eq] at p1 d1
  exact h H1 l1 ls p1 d1 ⟨s1, fun h9 => by cases h9⟩ d
theorem v_zast (k : Kf x cc nL own ret D tys rm) (q0 t0 : Nat) {cA : ClassId} {N a : Nat} {g : Nat → Int} {i : Int} (ht : tys[t0]? = some (cA, .boolean)) (he : ws[q0]? = some (a, .inl (cA, N, .inl (fun j => iI (g j))))) (hin : 0 ≤ i ∧ i < N) (hN : N < 2147483648) {v : Int} (r : Int) (hr : vp_nar .boolean (iI v) = iI r) (hd : decode cc pc = .ok (.bastore, 1)) (hn : pc + 1 = n) (h : Vw x nL A D true cells slots (ws.set q0 (a, .inl (cA, N, .inl (fun j => iI (upI g i.toNat r j))))) n lv (st)) : Vw x nL A D true cells slots ws pc lv (.int (iI v) :: .int (iI i) :: .ref a :: st) := by
  subst hn
  have hc : (iI i).toNatClampNeg = i.toNat := iI_clamp ⟨by omega, by omega⟩
  refine fun H locs ls a' b' c d => va_zast k.1 k.2.1 k.2.2.2.2.2.2.2.1.1 a' b' c.1 q0 t0 he ht (iI_in hin hN) hd (fun H1 l1 p1 d1 s1 => ?_)
  rw [hc, hr, upI_eq] at p1 d1
  exact h H1 l1 ls p1 d1 ⟨s1, fun h9 => by cases h9⟩ d
theorem v_alen (k : Kf x cc nL own ret D tys rm) (q0 t0 : Nat) {cA : ClassId} {N : Nat} {Y : (Nat → Int32) ⊕ (Nat → Int64) ⊕ (Nat → UInt32) ⊕ (Nat → UInt64) ⊕ (Nat → Option Nat)} {a : Nat} {ty : FieldType} (ht : tys[t0]? = some (cA, ty)) (he : ws[q0]? = some (a, .inl (cA, (N, Y)))) (hd : decode cc pc = .ok (.arraylength, 1)) (hn : pc + 1 = n) (h : Vw x nL A D wr cells slots ws n lv (.int (iI (N : Int)) :: st)) : Vw x nL A D wr cells slots ws pc lv (.ref a :: st) := by
  subst hn
  exact fun H locs ls a' b' c d => va_alen k.1 k.2.1 k.2.2.2.2.2.2.2.1.1 a' q0 t0 he ht rfl hd (h H locs ls a' b' c d)
def upN (g : Nat → Nat) (k v : Nat) : Nat → Nat := fun j => if j = k then v else g j
theorem upI_N (g : Nat → Nat) (k v : Nat) : upI (fun j => (g j : Int)) k (v : Int) = fun j => ((upN g k v j : Nat) : Int) := by
  funext j
  simp only [upI, upN]
  split <;> rfl
theorem v_ialdN (k : Kf x cc nL own ret D tys rm) (q0 t0 j0 : Nat) {cA : ClassId} {N a : Nat} {g : Nat → Nat} {i : Int} (ht : tys[t0]? = some (cA, .int)) (he : ws[q0]? = some (a, .inl (cA, N, .inl (fun j => iI ((g j : Nat) : Int))))) (hi : i = (j0 : Int)) (hin : j0 < N) (hN : N < 2147483648) (hd : decode cc pc = .ok (.iaload, 1)) (hn : pc + 1 = n) (h : Vw x nL A D wr cells slots ws n lv (.int (iI ((g j0 : Nat) : Int)) :: st)) : Vw x nL A D wr cells slots ws pc lv (.int (iI i) :: .ref a :: st) := by
  subst hi
  exact v_iald k q0 t0 ht he ⟨by omega, by omega⟩ hN hd hn (by rw [Int.toNat_natCast]; exact h)
theorem v_iastN (k : Kf x cc nL own ret D tys rm) (q0 t0 j0 : Nat) {cA : ClassId} {N a : Nat} {g : Nat → Nat} {i : Int} (ht : tys[t0]? = some (cA, .int)) (he : ws[q0]? = some (a, .inl (cA, N, .inl (fun j => iI ((g j : Nat) : Int))))) (hi : i = (j0 : Int)) (hin : j0 < N) (hN : N < 2147483648) {v : Int} (b0 : Nat) (hv : v = (b0 : Int)) (hd : decode cc pc = .ok (.iastore, 1)) (hn : pc + 1 = n) (h : Vw x nL A D true cells slots (ws.set q0 (a, .inl (cA, N, .inl (fun j => iI ((upN g j0 b0 j : Nat) : Int))))) n lv (st)) : Vw x nL A D true cells slots ws pc lv (.int (iI v) :: .int (iI i) :: .ref a :: st) := by
  subst hi
  subst hv
  refine v_iast k q0 t0 ht he ⟨by omega, by omega⟩ hN hd hn ?_
  rw [Int.toNat_natCast, upI_N]
  exact h
theorem arrV_congr {cA : ClassId} {N : Nat} {f g : Nat → Int32} (h : ∀ j, j < N → f j = g j) : vp_cell cA (N, .inl f) = vp_cell cA (N, .inl g) := by
  show arrV cA N (fun j => .int (f j)) = arrV cA N (fun j => .int (g j))
  unfold arrV
  have e : (fun j : Fin N => Value.int (f j.val)) = fun j : Fin N => Value.int (g j.val) := funext fun j => by rw [h j.val j.isLt]
  rw [e]
theorem v_cg (q0 : Nat) {cA : ClassId} {N a : Nat} {f : Nat → Int32} (f' : Nat → Int32) (he : ws[q0]? = some (a, .inl (cA, N, .inl f))) (hf : ∀ j, j < N → f j = f' j) (h : Vw x nL A D wr cells slots (ws.set q0 (a, .inl (cA, N, .inl f'))) pc lv st) : Vw x nL A D wr cells slots ws pc lv st := by
  intro H locs ls p1 d1 s1 l1
  refine h H locs ls (p1.set d1 he ?_ (fun _ _ => rfl)) (d1.set he) s1 l1
  have h2 : H[a]? = some (vp_cell cA (N, .inl f)) := p1 q0 _ he
  show H[a]? = some (vp_cell cA (N, .inl f'))
  rw [h2, arrV_congr hf]
theorem v_top {a b : Int} (e : a = b) (h : Vw x nL A D wr cells slots ws pc lv (.int (iI b) :: st)) : Vw x nL A D wr cells slots ws pc lv (.int (iI a) :: st) := by rw [e]; exact h
theorem v_lvs (h0 : ∀ q ∈ lv', lvget q.1 lv = some q.2) (h : Vw x nL A D wr cells slots ws pc lv' (st)) : Vw x nL A D wr cells slots ws pc lv (st) := fun H locs ls a b c d => h H locs ls a b c ⟨d.1, d.2.1, fun q hq => d.2.2 _ (lvget_mem (h0 q hq))⟩
theorem v_ws {ws' : va_W} (h0 : ws = ws') (h : Vw x nL A D wr cells slots ws' pc lv (st)) : Vw x nL A D wr cells slots ws pc lv (st) := by rw [h0]; exact h
end VR
