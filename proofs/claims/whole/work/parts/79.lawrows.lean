/-! rows of the law alone, and what holds between two calls -/
section LR
variable {x : Kx} {cc : ByteArray} {nL : Nat} {own : String} {ret : Option FieldType} {D : va_G} {tys : List (ClassId × FieldType)} {rm : Room} {A : Nat → Prop} {cells slots : Nat} {ws : va_W} {pc n : Nat} {lv lv' : List (Nat × Value)} {st : List Value}
/-- the script: its cell is none of the law's own -/
def SCR (x : Kx) (A : Nat → Prop) (b L : Nat) (xs : Nat → Int32) : Prop := va_X b L xs x.2.2.2.2.1 x.2.2.2.2.1.heap ∧ b < x.2.2.2.2.1.heap.size ∧ ¬ A b ∧ L ≤ 3072
def xI (xs : Nat → Int32) (j : Nat) : Int := (xs j).toInt
theorem xI_in (xs : Nat → Int32) (j : Nat) : in32 (xI xs j) := by
  have h1 := Int32.le_toInt (xs j)
  have h2 := Int32.toInt_lt (xs j)
  unfold xI in32
  omega
theorem xI_v (xs : Nat → Int32) (j : Nat) : xs j = iI (xI xs j) := (Int32.ofInt_toInt _).symm
theorem v_xald (k : Kf x cc nL own ret D tys rm) {b L : Nat} {xs : Nat → Int32} (hX : SCR x A b L xs) (j0 : Nat) {i : Int} (hi : i = (j0 : Int)) (hin : j0 < L) (hd : decode cc pc = .ok (.iaload, 1)) (hn : pc + 1 = n) (h : Vw x nL A D true cells slots ws n lv (.int (iI (xI xs j0)) :: st)) : Vw x nL A D true cells slots ws pc lv (.int (iI i) :: .ref b :: st) := by
  subst hn
  subst hi
  obtain ⟨h1, h2, h3, h4⟩ := hX
  intro H locs ls a' b' c d
  have hc : (iI (j0 : Int)).toNatClampNeg = j0 := by rw [iI_clamp ⟨by omega, by omega⟩]; rfl
  refine va_sld k.1 k.2.1 h1 h2 h3 c.1 (iI_in ⟨by omega, by omega⟩ (by omega)) hd ?_
  rw [hc, xI_v xs j0]
  exact h H locs ls a' b' c d
theorem v_xlen (k : Kf x cc nL own ret D tys rm) {b L : Nat} {xs : Nat → Int32} (hX : SCR x A b L xs) (hd : decode cc pc = .ok (.arraylength, 1)) (hn : pc + 1 = n) (h : Vw x nL A D true cells slots ws n lv (.int (iI (L : Int)) :: st)) : Vw x nL A D true cells slots ws pc lv (.ref b :: st) := by
  subst hn
  obtain ⟨h1, h2, h3, h4⟩ := hX
  intro H locs ls a' b' c d
  exact va_slen k.1 k.2.1 h1 h2 h3 c.1 hd (h H locs ls a' b' c d)
theorem v_lcmpE (k : Kf x cc nL own ret D tys rm) {v w : Int64} (he : v = w) (hd : decode cc pc = .ok (.lcmp, 1)) (hn : pc + 1 = n) (h : Vw x nL A D true cells slots ws n lv (.int (iI 0) :: st)) : Vw x nL A D true cells slots ws pc lv (.long w :: .long v :: st) := by
  subst hn
  subst he
  intro H locs ls a' b' c d
  refine W.lcmp k.1 k.2.1 hd ?_
  have e : lg_cmp v v = iI 0 := by
    unfold lg_cmp
    rw [if_neg (Int64.lt_irrefl), if_pos rfl]
    rfl
  rw [e]
  exact h H locs ls a' b' c d
theorem v_icmpS (k : Kf x cc nL own ret D tys rm) {a b : Int32} {off : Int} {t : Nat} (he : a = b) (hd : decode cc pc = .ok (.if_icmp .eq off, 3)) (ht : (pc : Int) + off = (t : Int)) (h1 : Vw x nL A D true cells slots ws t lv st) : Vw x nL A D true cells slots ws pc lv (.int b :: .int a :: st) := fun H locs ls a' b' c d => lv_icmp_eq k.1 k.2.1 hd ht (fun _ => h1 H locs ls a' b' c d) (fun e => absurd he e)
theorem v_wide {k1 k2 : Nat} (h1 : cells ≤ k1) (h2 : slots ≤ k2) (h : Vw x nL A D true k1 k2 ws pc lv st) : Vw x nL A D true cells slots ws pc lv st := fun H locs ls a b c d T hT X => h H locs ls a b c d T hT (stand_widen X h1 h2)
theorem and15 (w : Int32) : ∃ n : Nat, n < 16 ∧ w &&& iI 15 = iI (n : Int) := by
  refine ⟨w.toBitVec.toNat % 16, Nat.mod_lt _ (by decide), ?_⟩
  apply Int32.toBitVec_inj.1
  rw [Int32.toBitVec_and]
  show w.toBitVec &&& BitVec.ofNat 32 15 = BitVec.ofNat 32 (w.toBitVec.toNat % 16)
  apply BitVec.eq_of_toNat_eq
  rw [BitVec.toNat_and, BitVec.toNat_ofNat, BitVec.toNat_ofNat]
  have h1 := Nat.and_two_pow_sub_one_eq_mod w.toBitVec.toNat 4
  have h2 : w.toBitVec.toNat % 16 < 16 := Nat.mod_lt _ (by decide)
  rw [show 15 % 2 ^ 32 = 2 ^ 4 - 1 from rfl, h1, Nat.mod_eq_of_lt (show w.toBitVec.toNat % 16 < 2 ^ 32 by omega)]
end LR
/-- the disk, up or down -/
def SD (pg lg : Nat) (a : DA) : Prop := UPS a pg lg ∨ DWN a pg lg
/-- what holds between two calls: class and reference are of one disk, one tape, one answer -/
def SI (pg lg : Nat) (a : DA) (ko : Int) (K Cm Dr En : Nat → Nat) (Ib : Nat → Bool) (Bd Mn : Nat → Nat) (q : RQ) (Cg : Nat → Nat) (tp : Nat) (T : Nat → Nat) (an : Nat) (An : Nat → Nat) : Prop := SD pg lg a ∧ KS ko K a.1 pg lg ∧ RI pg lg a Cm Dr En Ib Bd Mn q Cg ∧ tp ≤ 48 ∧ (∀ j, T j < 256) ∧ an ≤ 32 ∧ ∀ j, An j < 256
theorem SD.bt {pg lg : Nat} {a : DA} (h : SD pg lg a) : ∀ j, a.1 j < 256 := h.elim (fun h => h.1) (fun h => h.1)
theorem SD.dn {pg lg : Nat} {a : DA} (h : SD pg lg a) : a.2.2.2 = 0 ∨ a.2.2.2 = 1 := h.elim (fun h => Or.inl h.2.1) (fun h => Or.inr h.2.1)
theorem SD.up {pg lg : Nat} {a : DA} (h : SD pg lg a) (h0 : a.2.2.2 = 0) : INV pg lg a.1 := h.elim (fun h => ⟨h.2.2.2, h.2.2.1⟩) (fun h => absurd (h0.symm.trans h.2.1) (by decide))
theorem SD.da {pg lg : Nat} {a : DA} (h : SD pg lg a) : a.2.2.2 = 0 ∨ (a.2.2.2 = 1 ∧ a.2.2.1 = 0) := h.elim (fun h => Or.inl h.2.1) (fun h => Or.inr ⟨h.2.1, h.2.2.1⟩)
theorem SD.dns {pg lg : Nat} {a : DA} (h : SD pg lg a) : DNS a.1 pg lg := h.elim (fun h => Or.inl ⟨h.2.2.1, h.2.2.2⟩) (fun h => h.2.2.2)
theorem SD.ok {pg lg : Nat} {a : DA} (h : SD pg lg a) : OKM a.1 pg lg := h.dns.ok h.bt
theorem SD.b5 {pg lg : Nat} {a : DA} (h : SD pg lg a) : ∀ p, p < pg → kdN a.1 lg p = 5 → WB a.1 p := fun p _ h5 => (h.ok.2.wb h5).2
/-- put and remove leave a disk that is up or down -/
theorem mp_sd {pg lg h : Nat} {T : Nat → Nat} {ks z : Nat} (hh : h < 65536) : ∀ (n : Nat) {C : Nat → Nat} {wt al : Int} {s2 : Int} {a2 : DA}, INV pg lg C → (∀ j, C j < 256) → sMP pg lg h T ks z n (C, wt, al, 0) = (s2, a2) → SD pg lg a2 ∧ (s2 = 0 → UPS a2 pg lg ∧ plc a2.1 (entN a2.1 (idx a2.1 h)) T ks z = true) := by
  intro n
  induction n with
  | zero =>
    intro C wt al s2 a2 hI hC e
    cases e
    exact ⟨Or.inl ⟨hC, rfl, hI.2, hI.1⟩, fun h9 => absurd h9 (by decide)⟩
  | succ n ih =>
    intro C wt al s2 a2 hI hC e
    rw [mp_s] at e
    by_cases h1 : plc C (entN C (idx C h)) T ks z = true
    · have e' : ((0 : Int), ((C, wt, al, 0) : DA)) = (s2, a2) := (if_pos h1).symm.trans e
      cases e'
      exact ⟨Or.inl ⟨hC, rfl, hI.2, hI.1⟩, fun _ => ⟨⟨hC, rfl, hI.2, hI.1⟩, h1⟩⟩
    · have e1 := (if_neg h1).symm.trans e
      by_cases h2 : allH C (entN C (idx C h)) h = true
      · have e' : ((3 : Int), ((C, wt, al, 0) : DA)) = (s2, a2) := (if_pos h2).symm.trans e1
        cases e'
        exact ⟨Or.inl ⟨hC, rfl, hI.2, hI.1⟩, fun h9 => absurd h9 (by decide)⟩
      · have e2 := (if_neg h2).symm.trans e1
        cases e3 : sSt (C, wt, al, 0) pg lg h with
        | mk s9 a9 =>
          rw [e3] at e2
          rcases st_run hI.1 hI.2 hh e3 with ⟨h3, hu, -⟩ | hk
          · subst h3
            have e4 : sMP pg lg h T ks z n a9 = (s2, a2) := (if_pos rfl).symm.trans e2
            obtain ⟨C9, wt9, al9, dn9⟩ := a9
            obtain ⟨u1, u2, u3, u4⟩ := hu
            have hd9 : dn9 = 0 := u2
            subst hd9
            exact ih ⟨u4, u3⟩ u1 e4
          · have h3 := hk.in.2
            have e4 : (s9, a9) = (s2, a2) := (if_neg h3).symm.trans e2
            cases e4
            refine ⟨?_, fun h9 => absurd h9 h3⟩
            rcases hk with ⟨-, h9⟩ | ⟨-, h9⟩
            · exact Or.inr h9
            · rw [h9]; exact Or.inl ⟨hC, rfl, hI.2, hI.1⟩
theorem pf_sd {pg lg : Nat} {T : Nat → Nat} {ks z : Nat} (hT : ∀ j, T j < 256) (hk1 : 1 ≤ ks) (hk : ks ≤ 16) (hkz : ks ≤ z) (hz2 : z - ks ≤ 32) {C : Nat → Nat} {wt al : Int} {s9 : Int} {a9 : DA} (hI : INV pg lg C) (hC : ∀ j, C j < 256) (e : pfF pg lg T ks z (C, wt, al, 0) = (s9, a9)) : SD pg lg a9 := by
  have hh := hsh_lt T 0 ks
  cases e1 : sMP pg lg (hsh T 0 ks) T ks z 64 (C, wt, al, 0) with
  | mk s2 a2 =>
    obtain ⟨h1, h2⟩ := mp_sd hh 64 hI hC e1
    by_cases h0 : s2 = 0
    · subst h0
      obtain ⟨hu, hpl⟩ := h2 rfl
      rw [pf_0 e1] at e
      obtain ⟨C2, wt2, al2, dn2⟩ := a2
      obtain ⟨u1, u2, u3, u4⟩ := hu
      have hd9 : dn2 = 0 := u2
      subst hd9
      replace u4 : FULL C2 pg lg := u4
      replace u3 : pb C2 1 0 = 0 := u3
      replace u1 : ∀ j, C2 j < 256 := u1
      replace hpl : plc C2 (entN C2 (idx C2 (hsh T 0 ks))) T ks z = true := hpl
      have hx := idx_lt (C := C2) hh u4.1.1.2.2.2.1
      obtain ⟨p1, p2, p3, p4, p5⟩ := u4.2.1 _ hx
      have hpl2 : bL C2 (entN C2 (idx C2 (hsh T 0 ks))) - less C2 (entN C2 (idx C2 (hsh T 0 ks))) T ks + 2 + z ≤ 252 := of_decide_eq_true hpl
      have hbl := but_len (T := T) (ks := ks) p4
      have hlen := recS_len C2 (entN C2 (idx C2 (hsh T 0 ks))) (notAt C2 (entN C2 (idx C2 (hsh T 0 ks))) (fndI C2 (entN C2 (idx C2 (hsh T 0 ks))) T ks)) (pb C2 (entN C2 (idx C2 (hsh T 0 ks))) 1)
      have hcn := p4.count
      have h252 := p4.2.2
      have htl : (tapL T ks z).length = 2 + z := by unfold tapL; rw [List.length_cons, List.length_cons, List.length_map, List.length_range]; omega
      have hfl : (recS C2 (entN C2 (idx C2 (hsh T 0 ks))) (notAt C2 (entN C2 (idx C2 (hsh T 0 ks))) (fndI C2 (entN C2 (idx C2 (hsh T 0 ks))) T ks)) (pb C2 (entN C2 (idx C2 (hsh T 0 ks))) 1) ++ [tapL T ks z]).flatten.length ≤ 252 := by
        rw [List.flatten_append, List.length_append, hbl]
        show _ + (tapL T ks z ++ []).length ≤ 252
        rw [List.append_nil, htl]
        omega
      have hbp : BPG (newB C2 (entN C2 (idx C2 (hsh T 0 ks))) T ks z) := by
        refine ⟨⟨_, _, fun _ _ => rfl, fun r hr => ?_, hfl⟩, fun i _ => bpg_lt (u1 _) (by rw [List.length_append]; show _ + 1 < 256; omega) (by omega) (fun r hr y hy => ?_) i⟩
        · rcases List.mem_append.mp hr with h9 | h9
          · exact VR_recS p4 (Nat.le_refl _) r h9
          · rw [List.mem_singleton.mp h9]
            exact VR_tapL hk1 hk hkz hz2
        · rcases List.mem_append.mp hr with h9 | h9
          · exact recS_lt u1 r h9 y hy
          · rw [List.mem_singleton.mp h9] at hy
            unfold tapL at hy
            rcases List.mem_cons.mp hy with h8 | h8
            · omega
            · rcases List.mem_cons.mp h8 with h8 | h8
              · omega
              · obtain ⟨j, -, rfl⟩ := List.mem_map.mp h8
                exact hT j
      have hF2 := FULL_wr u4 hx hbp rfl
      rcases stC_cs e with ⟨-, h9⟩ | ⟨-, h9⟩
      · rcases wr_run (wt := wt2) (al := al2) u4 u3 hF2 (by omega) h9 with ⟨-, h8, -⟩ | ⟨-, h8, -⟩
        · exact Or.inl h8
        · exact Or.inr h8
      · rcases wr_run (wt := wt2) (al := al2) u4 u3 hF2 (by omega) h9 with ⟨-, h8, -⟩ | ⟨-, h8, -⟩
        · exact Or.inl h8
        · exact Or.inr h8
    · rw [pf_s e1 h0] at e
      cases e
      exact h1
theorem ma_sd {pg lg h : Nat} (hh : h < 65536) : ∀ (n : Nat) {C : Nat → Nat} {wt al : Int} {s2 : Int} {a2 : DA}, INV pg lg C → (∀ j, C j < 256) → sMA lg h n (C, wt, al, 0) = (s2, a2) → SD pg lg a2 ∧ (s2 ≠ 4 → UPS a2 pg lg) := by
  intro n
  induction n with
  | zero =>
    intro C wt al s2 a2 hI hC e
    cases e
    exact ⟨Or.inl ⟨hC, rfl, hI.2, hI.1⟩, fun _ => ⟨hC, rfl, hI.2, hI.1⟩⟩
  | succ n ih =>
    intro C wt al s2 a2 hI hC e
    have hup : UPS (C, wt, al, 0) pg lg := ⟨hC, rfl, hI.2, hI.1⟩
    cases e3 : mrF (C, wt, al, 0) lg h with
    | mk s9 a9 =>
      rcases mr_run hI.1 hI.2 hh e3 with ⟨h3, hu, -⟩ | hk
      · subst h3
        rw [ma_0 e3] at e
        obtain ⟨C9, wt9, al9, dn9⟩ := a9
        obtain ⟨u1, u2, u3, u4⟩ := hu
        have hd9 : dn9 = 0 := u2
        subst hd9
        exact ih ⟨u4, u3⟩ u1 e
      · rcases mr_in e3 with h9 | h9 | h9
        · exact absurd h9 hk.in.2
        · subst h9
          rw [ma_4 e3] at e
          cases e
          rcases hk with ⟨-, h8⟩ | ⟨h8, -⟩
          · exact ⟨Or.inr h8, fun h7 => absurd rfl h7⟩
          · exfalso; omega
        · subst h9
          obtain ⟨g1, g2⟩ := ma_n (n := n) e3
          rw [e] at g1 g2
          replace g1 : a2 = a9 := g1
          rcases hk with ⟨h8, -⟩ | ⟨-, h8⟩
          · exfalso; omega
          · rw [g1, h8]
            exact ⟨Or.inl hup, fun _ => hup⟩
theorem ha_sd {pg lg : Nat} : ∀ (n : Nat) {C : Nat → Nat} {wt al : Int} {s2 : Int} {a2 : DA}, INV pg lg C → (∀ j, C j < 256) → sHA pg lg n (C, wt, al, 0) = (s2, a2) → SD pg lg a2 := by
  intro n
  induction n with
  | zero =>
    intro C wt al s2 a2 hI hC e
    cases e
    exact Or.inl ⟨hC, rfl, hI.2, hI.1⟩
  | succ n ih =>
    intro C wt al s2 a2 hI hC e
    obtain ⟨g0, g4, gn⟩ := ha_s (a := (C, wt, al, 0)) (pg := pg) (lg := lg) (n := n)
    cases e3 : hvF (C, wt, al, 0) pg lg with
    | mk s9 a9 =>
      rcases hv_run hI.1 hI.2 e3 with ⟨h3, hu, -⟩ | hk
      · subst h3
        rw [g0 a9 e3] at e
        obtain ⟨C9, wt9, al9, dn9⟩ := a9
        obtain ⟨u1, u2, u3, u4⟩ := hu
        have hd9 : dn9 = 0 := u2
        subst hd9
        exact ih ⟨u4, u3⟩ u1 e
      · rcases hv_in e3 with h9 | h9 | h9
        · exact absurd h9 hk.in.2
        · subst h9
          rw [g4 a9 e3] at e
          cases e
          rcases hk with ⟨-, h8⟩ | ⟨h8, -⟩
          · exact Or.inr h8
          · exfalso; omega
        · subst h9
          rw [gn a9 e3] at e
          cases e
          rcases hk with ⟨h8, -⟩ | ⟨-, h8⟩
          · exfalso; omega
          · rw [h8]; exact Or.inl ⟨hC, rfl, hI.2, hI.1⟩
theorem rv_sd {pg lg : Nat} {T : Nat → Nat} {z : Nat} {C : Nat → Nat} {wt al : Int} {s9 : Int} {a9 : DA} (hI : INV pg lg C) (hC : ∀ j, C j < 256) (e : rvF pg lg T z (C, wt, al, 0) = (s9, a9)) : SD pg lg a9 := by
  have hup : UPS (C, wt, al, 0) pg lg := ⟨hC, rfl, hI.2, hI.1⟩
  have hh := hsh_lt T 0 z
  have hx := idx_lt (C := C) hh hI.1.1.1.2.2.2.1
  obtain ⟨p1, p2, p3, p4, p5⟩ := hI.1.2.1 _ hx
  unfold rvF at e
  cases e0 : fnd C (entN C (idx C (hsh T 0 z))) T z with
  | none =>
    rw [show fnd (C, wt, al, (0 : Int)).1 (entN (C, wt, al, (0 : Int)).1 (idx (C, wt, al, (0 : Int)).1 (hsh T 0 z))) T z = none from e0] at e
    cases e
    exact Or.inl hup
  | some r =>
    rw [show fnd (C, wt, al, (0 : Int)).1 (entN (C, wt, al, (0 : Int)).1 (idx (C, wt, al, (0 : Int)).1 (hsh T 0 z))) T z = some r from e0] at e
    have e' : rmF pg lg (hsh T 0 z) (entN C (idx C (hsh T 0 z))) (bpg (pb C (entN C (idx C (hsh T 0 z))) 0) (wL C (entN C (idx C (hsh T 0 z))) T z)) (C, wt, al, 0) = (s9, a9) := e
    have hlen : (wL C (entN C (idx C (hsh T 0 z))) T z).length ≤ pb C (entN C (idx C (hsh T 0 z))) 1 := recS_len _ _ _ _
    have hcn := p4.count
    have h252 := p4.2.2
    have hfl : (wL C (entN C (idx C (hsh T 0 z))) T z).flatten.length ≤ bL C (entN C (idx C (hsh T 0 z))) := recS_le p4
    have hbp : BPG (bpg (pb C (entN C (idx C (hsh T 0 z))) 0) (wL C (entN C (idx C (hsh T 0 z))) T z)) := ⟨⟨_, _, fun _ _ => rfl, VR_recS p4 (Nat.le_refl _), Nat.le_trans hfl h252⟩, fun i _ => bpg_lt (rs := wL C (entN C (idx C (hsh T 0 z))) T z) (hC _) (by omega) (by omega) (recS_lt hC) i⟩
    have hF2 := FULL_wr hI.1 hx hbp rfl
    cases e1 : stC (sW (C, wt, al, 0) (entN C (idx C (hsh T 0 z))) (bpg (pb C (entN C (idx C (hsh T 0 z))) 0) (wL C (entN C (idx C (hsh T 0 z))) T z))) with
    | mk s1 a1 =>
      rcases stC_cs e1 with ⟨h0, h9⟩ | ⟨h0, h9⟩
      · subst h0
        rw [rmF_0 e1] at e'
        rcases wr_run (wt := wt) (al := al) hI.1 hI.2 hF2 (by omega) h9 with ⟨-, hu, -⟩ | ⟨h8, -⟩
        · obtain ⟨C1, wt1, al1, dn1⟩ := a1
          obtain ⟨u1, u2, u3, u4⟩ := hu
          have hd9 : dn1 = 0 := u2
          subst hd9
          cases e2 : sMA lg (hsh T 0 z) 64 (C1, wt1, al1, 0) with
          | mk s2 a2 =>
            obtain ⟨g1, g2⟩ := ma_sd hh 64 ⟨u4, u3⟩ u1 e2
            rw [e2] at e'
            unfold mH at e'
            by_cases h4 : s2 = 4
            · have e5 : ((4 : Int), a2) = (s9, a9) := (if_pos h4).symm.trans e'
              cases e5
              exact g1
            · have e5 : sHA pg lg 64 a2 = (s9, a9) := (if_neg h4).symm.trans e'
              obtain ⟨C2, wt2, al2, dn2⟩ := a2
              obtain ⟨v1, v2, v3, v4⟩ := g2 h4
              have hd8 : dn2 = 0 := v2
              subst hd8
              exact ha_sd 64 ⟨v4, v3⟩ v1 e5
        · cases h8
      · subst h0
        rw [rmF_s e1 (by decide)] at e'
        cases e'
        rcases wr_run (wt := wt) (al := al) hI.1 hI.2 hF2 (by omega) h9 with ⟨h8, -⟩ | ⟨-, h8, -⟩
        · cases h8
        · exact Or.inr h8
