/-! the start: what the tables and the statement give, the walk to the loop -/
theorem v_perm {x : Kx} {nL : Nat} {A : Nat → Prop} {D : va_G} {wr : Bool} {cells slots pc : Nat} {ws : va_W} {lv : List (Nat × Value)} {st : List Value} (is : List Nat) (ws' : va_W) (hn : va_nd is = true) (hs : is.map (fun i => ws[i]?) = ws'.map some) (h : Vw x nL A D wr cells slots ws' pc lv st) : Vw x nL A D wr cells slots ws pc lv st := fun H locs ls a b c d => h H locs ls (sub_places hs a) (b.sub is hn hs) c d
theorem arr_known {s : State} {args : Array Value} {ty : FieldType} (h : (Cond.arrayClass ty).before args s = true) : ∃ cA : ClassId, ArrOfT s cA ty ∧ s.vm.findClass ("[" ++ ty.toString) = some cA := by
  obtain ⟨cA, kA, comp, h1, h2, h3⟩ := Cond.arrayClass_spec h
  exact ⟨cA, fun n z => ⟨fun k h => (by cases h), kA, h2, comp, h3⟩, h1⟩
theorem tb_tbl {w : Cond} (h : w ∈ TB) : w ∈ lw_tbl := (List.mem_filter.mp h).1
theorem nest_in : ∀ w ∈ nestW, w ∈ lw_tbl := by decide +kernel
theorem bad_in : ∀ w ∈ badX, w ∈ lw_tbl := by decide +kernel
theorem str_in : ∀ q ∈ strX, Cond.stringRef RX4 q.1 q.2 ∈ lw_tbl := by decide +kernel
theorem sta_in : ∀ w ∈ [Cond.laysStatic Bundle.tN "UNASSIGNED_STACK" Bundle.steD, Cond.laysStatic Bundle.tN "SUPPRESSED_SENTINEL" Bundle.listD, Cond.initialized Bundle.tN], w ∈ lw_tbl := by decide +kernel
theorem str_fl : ∀ q ∈ strX, Cond.exactly (.string RX4 q.1) "java/lang/String" ∈ flatC (Jvm.Cond.and given_1 narrow_1) := by decide +kernel
theorem sta_fl : ∀ w ∈ [Cond.isRef (.static Bundle.tN "UNASSIGNED_STACK" Bundle.steD), Cond.isRef (.static Bundle.tN "SUPPRESSED_SENTINEL" Bundle.listD), Cond.not (.castable xIAE xISE), Cond.not (.castable xUOE xIAE)], w ∈ flatC (Jvm.Cond.and given_1 narrow_1) := by decide +kernel
theorem st_Kn {s : State} {args : Array Value} (hts : ∀ w ∈ lw_tbl, w.before args s = true) : ∃ (D : va_G) (cI cB cJ cZ : ClassId), Kn D (TY cI cB cJ cZ) s := by
  have htb : ∀ w ∈ TB, w.before args s = true := fun w h => hts w (tb_tbl h)
  obtain ⟨c0, i0, k0⟩ := u_known (C := RX0) (T := TX0) (N := 3) (n := 3) htb uTB0 (htb _ ia_X0)
  obtain ⟨c1, i1, k1⟩ := u_known (C := RX1) (T := TX1) (N := 8) (n := 8) htb uTB1 (htb _ ia_X1)
  obtain ⟨c2, i2, k2⟩ := u_known (C := RX2) (T := TX2) (N := 1) (n := 1) htb uTB2 (htb _ ia_X2)
  obtain ⟨c3, i3, k3⟩ := u_known (C := RX3) (T := TX3) (N := 2) (n := 2) htb uTB3 (htb _ ia_X3)
  obtain ⟨c4, i4, k4⟩ := u_known (C := RX4) (T := TX4) (N := 7) (n := 7) htb uTB4 (htb _ ia_X4)
  obtain ⟨c5, i5, k5⟩ := u_known (C := RX5) (T := TX5) (N := 26) (n := 26) htb uTB5 (htb _ ia_X5)
  obtain ⟨cI, a1, b1⟩ := arr_known (htb _ ac_int)
  obtain ⟨cB, a2, b2⟩ := arr_known (htb _ ac_byte)
  obtain ⟨cJ, a3, b3⟩ := arr_known (htb _ ac_long)
  obtain ⟨cZ, a4, b4⟩ := arr_known (htb _ ac_boolean)
  refine ⟨(fun k => if k = 0 then c0 else if k = 1 then c1 else if k = 2 then c2 else if k = 3 then c3 else if k = 4 then c4 else c5, fun k => if k = 0 then i0 else if k = 1 then i1 else if k = 2 then i2 else if k = 3 then i3 else if k = 4 then i4 else i5), cI, cB, cJ, cZ, ⟨?_, ?_⟩, ?_⟩
  · intro k q hq
    match k, hq with
    | 0, hq => cases hq; exact k0
    | 1, hq => cases hq; exact k1
    | 2, hq => cases hq; exact k2
    | 3, hq => cases hq; exact k3
    | 4, hq => cases hq; exact k4
    | 5, hq => cases hq; exact k5
    | k + 6, hq => cases hq
  · intro k q hq
    match k, hq with
    | 0, hq => cases hq; exact ⟨a1, b1⟩
    | 1, hq => cases hq; exact ⟨a2, b2⟩
    | 2, hq => cases hq; exact ⟨a3, b3⟩
    | 3, hq => cases hq; exact ⟨a4, b4⟩
    | k + 4, hq => cases hq
  · intro w hw
    refine va_Nw.of ?_ (hts w (nest_in w hw))
    simp only [nestW, List.mem_cons, List.not_mem_nil, or_false] at hw
    rcases hw with rfl | rfl | rfl <;> rfl
theorem st_Kt {s : State} {b : Nat} (hts : ∀ w ∈ lw_tbl, w.before #[Value.ref b] s = true) (hgv : (Jvm.Cond.and given_1 narrow_1).before #[Value.ref b] s = true) : Kt (fun q => s.heap.size ≤ q) s s.heap := by
  have hs := flat_of_before _ hgv
  have hA : ∀ a : Nat, a < s.heap.size → ¬ (fun q => s.heap.size ≤ q) a := fun a h => Nat.not_le.mpr h
  have s1 := fun w h => hts w (sta_in w h)
  have s2 := fun w h => hs w (sta_fl w h)
  have hi : (Cond.initialized Bundle.tN).before #[Value.ref b] s = true := s1 _ (List.mem_cons_of_mem _ (List.mem_cons_of_mem _ List.mem_cons_self))
  refine ⟨⟨vx_Zqof (s1 _ List.mem_cons_self) hi (s2 _ List.mem_cons_self) hA, vx_Zqof (s1 _ (List.mem_cons_of_mem _ List.mem_cons_self)) hi (s2 _ (List.mem_cons_of_mem _ List.mem_cons_self)) hA⟩, fun w hw => ?_, fun q hq => ?_, va_Nc.of (s2 _ (List.mem_cons_of_mem _ (List.mem_cons_of_mem _ List.mem_cons_self))), va_Nc.of (s2 _ (List.mem_cons_of_mem _ (List.mem_cons_of_mem _ (List.mem_cons_of_mem _ List.mem_cons_self))))⟩
  · refine va_Nw.of ?_ (hts w (bad_in w hw))
    simp only [badX, List.mem_cons, List.not_mem_nil, or_false] at hw
    rcases hw with rfl | rfl | rfl | rfl | rfl | rfl <;> rfl
  · obtain ⟨sa, -, -, -, hsa, -⟩ := Cond.exactly_spec (hs _ (str_fl q hq))
    exact ⟨sa, vk_R.of (hts _ (str_in q hq)) hsa⟩
