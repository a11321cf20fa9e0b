/-! pages built of records -/
/-- a record's bytes -/
def VR (r : List Nat) : Prop := ∃ ks vs bs, r = ks :: vs :: bs ∧ 1 ≤ ks ∧ ks ≤ 16 ∧ vs ≤ 32 ∧ bs.length = ks + vs
theorem VR.len {r : List Nat} (h : VR r) : r.length = 2 + r.getD 0 0 + r.getD 1 0 := by
  obtain ⟨ks, vs, bs, rfl, -, -, -, h4⟩ := h
  show bs.length + 1 + 1 = 2 + ks + vs
  omega
theorem VR.pos {r : List Nat} (h : VR r) : 3 ≤ r.length := by
  obtain ⟨ks, vs, bs, rfl, h1, -, -, h4⟩ := h
  show 3 ≤ bs.length + 1 + 1
  omega
/-- page p is the bucket's page of these records -/
def PB (C : Nat → Nat) (p d : Nat) (rs : List (List Nat)) : Prop := (∀ i, i < 256 → pb C p i = bpg d rs i) ∧ (∀ r ∈ rs, VR r) ∧ rs.flatten.length ≤ 252
theorem fl_at {rs : List (List Nat)} {r t : Nat} (hr : r < rs.length) (ht : t < (rs.getD r []).length) : rs.flatten.getD ((rs.take r).flatten.length + t) 0 = (rs.getD r []).getD t 0 := by
  induction rs generalizing r with
  | nil => exact absurd hr (by simp)
  | cons a l ih =>
    cases r with
    | zero =>
      have ht' : t < a.length := ht
      show (a ++ l.flatten).getD (0 + t) 0 = a.getD t 0
      rw [Nat.zero_add, List.getD_eq_getElem?_getD, List.getD_eq_getElem?_getD, List.getElem?_append_left ht']
    | succ r =>
      have hr' : r < l.length := Nat.lt_of_succ_lt_succ hr
      have ht' : t < (l.getD r []).length := ht
      show (a ++ l.flatten).getD ((a ++ (l.take r).flatten).length + t) 0 = (l.getD r []).getD t 0
      rw [← ih hr' ht', List.length_append, List.getD_eq_getElem?_getD, List.getD_eq_getElem?_getD, List.getElem?_append_right (by omega), show a.length + (l.take r).flatten.length + t - a.length = (l.take r).flatten.length + t by omega]
theorem fl_take {rs : List (List Nat)} {r : Nat} (hr : r < rs.length) : (rs.take (r + 1)).flatten.length = (rs.take r).flatten.length + (rs.getD r []).length := by
  induction rs generalizing r with
  | nil => exact absurd hr (by simp)
  | cons a l ih =>
    cases r with
    | zero => show (a ++ ([] : List Nat)).length = 0 + a.length; rw [List.append_nil, Nat.zero_add]
    | succ r =>
      show (a ++ (l.take (r + 1)).flatten).length = (a ++ (l.take r).flatten).length + (l.getD r []).length
      rw [List.length_append, List.length_append, ih (Nat.lt_of_succ_lt_succ hr)]
      omega
theorem fl_le (rs : List (List Nat)) (r : Nat) : (rs.take r).flatten.length ≤ rs.flatten.length := by
  induction rs generalizing r with
  | nil => simp
  | cons a l ih =>
    cases r with
    | zero => exact Nat.zero_le _
    | succ r =>
      show (a ++ (l.take r).flatten).length ≤ (a ++ l.flatten).length
      rw [List.length_append, List.length_append]
      have := ih r
      omega
theorem len3 {rs : List (List Nat)} (h : ∀ r ∈ rs, VR r) : 3 * rs.length ≤ rs.flatten.length := by
  induction rs with
  | nil => exact Nat.le_refl _
  | cons a l ih =>
    have h1 := (h a List.mem_cons_self).pos
    have h2 := ih (fun r hr => h r (List.mem_cons_of_mem _ hr))
    show 3 * (l.length + 1) ≤ (a ++ l.flatten).length
    rw [List.length_append]
    omega
section PBs
variable {C : Nat → Nat} {p d : Nat} {rs : List (List Nat)}
theorem PB_n84 (h : PB C p d rs) : rs.length ≤ 84 := by
  have := len3 h.2.1
  have := h.2.2
  omega
theorem PB_d0 (h : PB C p d rs) : pb C p 0 = d := (h.1 0 (by decide)).trans rfl
theorem PB_n1 (h : PB C p d rs) : pb C p 1 = rs.length := (h.1 1 (by decide)).trans rfl
theorem PB_bl (h : PB C p d rs) : bL C p = rs.flatten.length := by
  unfold bL
  rw [h.1 2 (by decide), h.1 3 (by decide)]
  show rs.flatten.length / 256 * 256 + rs.flatten.length % 256 = _
  omega
theorem PB_at {j : Nat} (h : PB C p d rs) (hj : 4 + j < 256) : pb C p (4 + j) = rs.flatten.getD j 0 := by
  rw [h.1 _ hj]
  show bpi d rs.length rs.flatten.length rs.flatten (4 + j) = _
  unfold bpi
  rw [if_neg (by omega), if_neg (by omega), if_neg (by omega), if_neg (by omega), show 4 + j - 4 = j by omega]
theorem PB_rec (h : PB C p d rs) {r : Nat} (hr : r < rs.length) : VR (rs.getD r []) := by
  rw [List.getD_eq_getElem?_getD, List.getElem?_eq_getElem hr]
  exact h.2.1 _ (List.getElem_mem hr)
theorem PB_rst (h : PB C p d rs) : ∀ r, r ≤ rs.length → rst C p r = 4 + (rs.take r).flatten.length := by
  intro r
  induction r with
  | zero => intro _; rfl
  | succ r ih =>
    intro hr
    have hr' : r < rs.length := hr
    have hv := PB_rec h hr'
    have hp := hv.pos
    have hl := hv.len
    have h9 := fl_le rs (r + 1)
    have h8 := fl_take hr'
    have h7 := h.2.2
    have e0 : pb C p (4 + (rs.take r).flatten.length) = (rs.getD r []).getD 0 0 := by
      rw [PB_at h (by omega)]
      exact fl_at (t := 0) hr' (by omega)
    have e1 : pb C p (4 + (rs.take r).flatten.length + 1) = (rs.getD r []).getD 1 0 := by
      rw [Nat.add_assoc, PB_at h (by omega)]
      exact fl_at (t := 1) hr' (by omega)
    show rst C p r + rsz C p (rst C p r) = _
    rw [ih (by omega)]
    unfold rsz
    rw [e0, e1, h8]
    omega
theorem PB_recL (h : PB C p d rs) {r : Nat} (hr : r < rs.length) : recL C p (rst C p r) = rs.getD r [] := by
  have hv := PB_rec h hr
  have h9 := fl_le rs (r + 1)
  have h8 := fl_take hr
  have h7 := h.2.2
  have e : rsz C p (rst C p r) = (rs.getD r []).length := by
    have h1 : rst C p r + rsz C p (rst C p r) = _ := PB_rst h (r + 1) hr
    have h2 := PB_rst h r (by omega)
    omega
  unfold recL
  rw [e, PB_rst h r (by omega)]
  apply List.ext_getElem?
  intro t
  rw [List.getElem?_map]
  by_cases ht : t < (rs.getD r []).length
  · rw [List.getElem?_range ht, List.getElem?_eq_getElem ht]
    show some (pb C p (4 + (rs.take r).flatten.length + t)) = _
    rw [Nat.add_assoc, PB_at h (by omega), fl_at hr ht, List.getD_eq_getElem?_getD, List.getElem?_eq_getElem ht]
    rfl
  · rw [List.getElem?_eq_none (by rw [List.length_range]; omega), List.getElem?_eq_none (by omega)]
    rfl
theorem PB_WB (h : PB C p d rs) : WB C p := by
  refine ⟨fun r hr => ?_, ?_, by rw [PB_bl h]; exact h.2.2⟩
  · rw [PB_n1 h] at hr
    have e := PB_recL h hr
    obtain ⟨ks, vs, bs, e2, h1, h2, h3, h4⟩ := PB_rec h hr
    rw [e2, recL_split] at e
    injection e with e3 e4
    injection e4 with e5 e6
    rw [e3, e5]
    exact ⟨h1, h2, h3⟩
  · rw [PB_n1 h, PB_rst h _ (Nat.le_refl _), List.take_length, PB_bl h]
end PBs
/-- all records of a bucket -/
def rcL (C : Nat → Nat) (p : Nat) : List (List Nat) := (List.range (pb C p 1)).map (fun r => recL C p (rst C p r))
theorem VR_recL {C : Nat → Nat} {p r : Nat} (h : WB C p) (hr : r < pb C p 1) : VR (recL C p (rst C p r)) := by
  obtain ⟨h1, h2, h3⟩ := h.1 r hr
  exact ⟨_, _, _, recL_split C p (rst C p r), h1, h2, h3, by simp⟩
theorem VR_recS {C : Nat → Nat} {p n : Nat} {sel : Nat → Bool} (h : WB C p) (hn : n ≤ pb C p 1) : ∀ r ∈ recS C p sel n, VR r := by
  intro r hr
  unfold recS at hr
  obtain ⟨a, ha, rfl⟩ := List.mem_map.mp hr
  have h1 := List.mem_range.mp (List.mem_filter.mp ha).1
  exact VR_recL h (by omega)
theorem recS_le {C : Nat → Nat} {p : Nat} {sel : Nat → Bool} (h : WB C p) : (recS C p sel (pb C p 1)).flatten.length ≤ bL C p := by
  have h1 := recS_bytes C p sel (pb C p 1)
  rw [h.2.1] at h1
  omega
theorem VR_tapL {T : Nat → Nat} {ks z : Nat} (h1 : 1 ≤ ks) (h2 : ks ≤ 16) (h3 : ks ≤ z) (h4 : z - ks ≤ 32) : VR (tapL T ks z) := ⟨ks, z - ks, _, rfl, h1, h2, h4, by rw [List.length_map, List.length_range]; omega⟩
theorem PB_wr {C f : Nat → Nat} {p d : Nat} {rs : List (List Nat)} (hf : ∀ i, i < 256 → f i = bpg d rs i) (h1 : ∀ r ∈ rs, VR r) (h2 : rs.flatten.length ≤ 252) : PB (wrp C p f) p d rs := ⟨fun i hi => by rw [wrp_in hi, hf i hi], h1, h2⟩
theorem PB_pg {C C' : Nat → Nat} {p d : Nat} {rs : List (List Nat)} (h : PB C p d rs) (hp : PG C C' p) : PB C' p d rs := ⟨fun i hi => by rw [hp i hi, h.1 i hi], h.2⟩
/-- what the reference's arrays say of a page that was built of their records -/
theorem PB_RB {C : Nat → Nat} {p : Nat} {Bd Mn : Nat → Nat} {q : RQ} (h : PB C p (Bd p) (rcs q p (Mn p))) : RB C p Bd Mn q := by
  have hn : pb C p 1 = Mn p := by rw [PB_n1 h, rcs_len]
  refine ⟨(PB_d0 h).symm, hn.symm, fun r hr => ?_⟩
  rw [hn] at hr
  rw [PB_recL h (by rw [rcs_len]; exact hr)]
  unfold rcs
  rw [List.getD_eq_getElem?_getD, List.getElem?_map, List.getElem?_range hr]
  rfl
theorem RB_rcs {C : Nat → Nat} {p : Nat} {Bd Mn : Nat → Nat} {q : RQ} (h : RB C p Bd Mn q) : rcs q p (Mn p) = rcL C p := by
  unfold rcs rcL
  rw [h.2.1]
  exact List.map_congr_left (fun r hr => h.2.2 r (List.mem_range.mp hr))
