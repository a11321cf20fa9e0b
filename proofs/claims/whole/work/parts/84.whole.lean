set_option maxHeartbeats 1000000 in
set_option maxRecDepth 20000 in
theorem law_begin {D : va_G} {cI cB cJ cZ : ClassId} {x : Kx} {L b : Nat} {xs : Nat → Int32} (k : Kf x cL_law 7 RL (some .boolean) D (TY cI cB cJ cZ) room_1) (kt : Kt (fun q => x.2.2.2.2.1.heap.size ≤ q) x.2.2.2.2.1 x.2.2.2.2.1.heap) (hst9 : x.2.1.stackTraces = false) (hX : SCR x (fun q => x.2.2.2.2.1.heap.size ≤ q) b L xs) (ha9 : x.2.2.2.2.2.2.1 = #[Value.ref b]) (hq : x.2.2.2.2.2.2.2.2.2.2 = lw_Z x.2.2.2.2.2.2.2.1 #[Value.ref b] x.2.2.2.2.1) : Vw x 7 (fun q => x.2.2.2.2.1.heap.size ≤ q) D true 0 0 [] 0 [(0, .ref b)] [] := by
  have hA : ∀ q, x.2.2.2.2.1.heap.size ≤ q → (fun q => x.2.2.2.2.1.heap.size ≤ q) q := fun _ h => h
  have hL9 := hX.2.2.2
  refine v_newo (n := 3) k hA ciX4 cl_L_8 ia_X4 in_X4 [.null, .null, .null, .null, .null, .null, .int 0] (fun j hj => match j, hj with | 0, _ => rfl | 1, _ => rfl | 2, _ => rfl | 3, _ => rfl | 4, _ => rfl | 5, _ => rfl | 6, _ => rfl | (j + 7), h => absurd h (by omega)) ⟨Nat.le_of_ble_eq_true rfl, Nat.le_of_ble_eq_true rfl⟩ dL_law_0 rfl (fun hx => ?_)
  dsimp only [List.nil_append]
  refine v_dup (n := 4) k rfl dL_law_3 rfl ?_
  refine v_callE (n := 7) (wr := []) k hA z_X4_init miX4_init im_yX4_init rfl ml_L_41 (by decide) ⟨rfl, rfl⟩ rfl rfl (Nat.le_of_ble_eq_true rfl) ⟨Nat.le_of_ble_eq_true rfl, Nat.le_of_ble_eq_true rfl⟩ dL_law_4 rfl ?_
  rintro _ ⟨hd, hc, hk, hch, hj, hi, hjb, hib, hb, hbb, hh, hhb, ht, htb, ha, rfl⟩
  dsimp only [List.nil_append]
  refine v_astore_n (n := 8) k dL_law_7 rfl (by decide) rfl rfl ?_
  dsimp only [lvput]
  refine v_newo (n := 11) k hA ciX5 cl_L_42 ia_X5 in_X5 [.int 0, .null, .int 0, .int 0, .int 0, .int 0, .int 0, .int 0, .int 0, .null, .null, .null, .null, .null, .null, .null, .null, .null, .null, .null, .int 0, .null, .int 0, .null, .null, .int 0] (fun j hj => match j, hj with | 0, _ => rfl | 1, _ => rfl | 2, _ => rfl | 3, _ => rfl | 4, _ => rfl | 5, _ => rfl | 6, _ => rfl | 7, _ => rfl | 8, _ => rfl | 9, _ => rfl | 10, _ => rfl | 11, _ => rfl | 12, _ => rfl | 13, _ => rfl | 14, _ => rfl | 15, _ => rfl | 16, _ => rfl | 17, _ => rfl | 18, _ => rfl | 19, _ => rfl | 20, _ => rfl | 21, _ => rfl | 22, _ => rfl | 23, _ => rfl | 24, _ => rfl | 25, _ => rfl | (j + 26), h => absurd h (by omega)) ⟨Nat.le_of_ble_eq_true rfl, Nat.le_of_ble_eq_true rfl⟩ dL_law_8 rfl (fun hm => ?_)
  refine v_dup (n := 12) k rfl dL_law_11 rfl ?_
  refine v_callE (n := 15) k hA z_X5_init miX5_init im_yX5_init rfl ml_L_44 (by decide) ⟨rfl, rfl⟩ rfl rfl (Nat.le_of_ble_eq_true rfl) ⟨Nat.le_of_ble_eq_true rfl, Nat.le_of_ble_eq_true rfl⟩ dL_law_12 rfl ?_
  rintro _ ⟨r, Cm, Dr, En, Ib, Bd, Mn, q, hAG, hRM, rfl⟩
  refine v_astore_n (n := 16) k dL_law_15 rfl (by decide) rfl rfl ?_
  dsimp only [lvput]
  refine v_iconst (n := 17) k dL_law_16 rfl ?_
  refine v_newa (n := 19) (N := 1) k hA 2 rfl rfl prJ ac_long (1, .inr (.inl (fun _ => 0))) (fun _ => rfl) rfl (by decide) (by decide) ⟨Nat.le_of_ble_eq_true rfl, Nat.le_of_ble_eq_true rfl⟩ dL_law_17 rfl (fun ho => ?_)
  refine v_astore_n (n := 20) k dL_law_19 rfl (by decide) rfl rfl ?_
  dsimp only [lvput]
  refine v_iconst (n := 21) k dL_law_20 rfl ?_
  refine v_istore (n := 23) k dL_law_21 rfl (by decide) rfl rfl ?_
  dsimp only [lvput]
  refine v_perm [0, 1, 2, 3, 4, 9, 10, 11, 12, 5, 6, 7, 8, 13, 14, 15, 16, 17, 18, 19, 20, 21, 22, 23, 24, 25, 26, 27, 28, 29, 30, 31, 32] [oHash hx hd hch hb hh ht ha ((0 : Nat) : Int), oDisk hd hc hk 1 64 8 0 (-1) 0, aN cI hc 65280 (fmC (fun _ => 0) 64 8), aN cI hk 255 (fun _ => 0), oChange hch hd hj hi, oPage hb hbb, aN cI hbb 256 (fun _ => 0), oPage hh hhb, aN cI hhb 256 (fun _ => 0), oPage hj hjb, aN cI hjb 256 (fun _ => 0), oPage hi hib, aN cI hib 256 (fun _ => 0), oTape ht htb ((0 : Nat) : Int), aN cI htb 48 (fun _ => 0), aN cI ha 32 (fun _ => 0), oM hm r (0) (64) (8) (0) (-1) (0) ((fmC (fun _ => 0) 64 8) 0) (pF ((fmC (fun _ => 0) 64 8) 0)) (0) (0) (0), aB cB (r 0) 65536 (Cm), aN cI (r 1) 256 (Dr), aN cI (r 2) 65536 (En), aN cI (r 3) 65536 (fun _ => 0), aZ cZ (r 4) 256 (Ib), aN cI (r 5) 256 (Bd), aN cI (r 6) 256 (Mn), aN cI (r 7) 23040 (q).1, aN cI (r 8) 23040 (q).2.1, aL cJ (r 9) 46080 (q).2.2.1, aL cJ (r 10) 92160 (q).2.2.2, aB cB (r 11) 48 (fun _ => 0), aB cB (r 12) 32 (fun _ => 0), aN cI (r 13) 256 (fun _ => 0), aN cI (r 14) 256 (fun _ => 0), aL cJ ho 1 (fun _ => 0)] rfl rfl ?_
  obtain ⟨hF, hp0⟩ := fm_full (C := fun _ => 0) (n := 64) (g := 8) (by decide) (by decide) (by decide) (by decide) (by decide) (fun _ => by decide)
  have hbt : ∀ j, fmC (fun _ => 0) 64 8 j < 256 := fun j => by
    rw [fm_at]
    split
    · omega
    · split
      · omega
      · split <;> omega
  exact lp_law k kt hst9 hX ha9 hq 512 0 _ _ (by omega) (by omega) (by decide) (by decide) 64 8 (fmC (fun _ => 0) 64 8, 0, -1, 0) 1 (fun _ => 0) (fun _ => 0) (fun _ => 0) (fun _ => 0) (fun _ => 0) 0 (fun _ => 0) 0 (fun _ => 0) 0 Cm Dr En (fun _ => 0) Ib Bd Mn q (fun _ => 0) (fun _ => 0) 0 (fun _ => 0)
    ⟨Or.inl ⟨hbt, rfl, hp0, hF⟩, ⟨fun _ => (by decide : 0 < 256), Or.inl rfl⟩, ⟨hAG, ⟨by decide, by decide⟩, hRM, fun _ => (by decide : 0 < 256)⟩, by decide, fun _ => (by decide : 0 < 256), by decide, fun _ => (by decide : 0 < 256)⟩
theorem whole_start {p : Program} {e : Env} {s : State} {m : MethodId} {below : List Frame} {meth : Method} {c : Code} (l : Launch) (hl9 : l.stackTraces = false) {b L : Nat} {xs : Nat → Int32} (hL : L ≤ 3072) (C0 : lw_At p s m meth c b L xs) : W p l e room_1 s m #[Value.ref b] below meth c s.heap [] 0 0 (lw_Z below #[Value.ref b] s) (entryFrame m ([Value.ref b] : List Value).toArray 7) := by
  obtain ⟨hx, hb, hr, hml, hown, hts, hX, hbl, hlocks, hgv⟩ := id C0
  obtain ⟨D, cI, cB, cJ, cZ, hK⟩ := st_Kn hts
  have hkt := st_Kt hts hgv
  have hk : Kf (p, l, e, room_1, s, m, #[Value.ref b], below, meth, c, lw_Z below #[Value.ref b] s) cL_law 7 RL (some .boolean) D (TY cI cB cJ cZ) room_1 :=
    ⟨hx, hb, hml, hown, fun w hw => hts w (tb_tbl hw), hr, hlocks, hK, rfl⟩
  have hl := lv_entry ([.ref b]) (n := 7) (Nat.le_of_ble_eq_true rfl)
  rw [lg_entry_eq]
  exact law_begin (x := (p, l, e, room_1, s, m, #[Value.ref b], below, meth, c, lw_Z below #[Value.ref b] s)) hk hkt hl9 ⟨hX, hbl, Nat.not_le.mpr hbl, hL⟩ rfl rfl s.heap [] _ (fun k q h => (by cases h)) ⟨fun i j p q h => (by cases h), fun k q h => (by cases h)⟩ ⟨va_S.rf, fun h9 => by cases h9⟩ hl
set_option maxHeartbeats 4000000 in
theorem lw_walk (l : Launch) (hl9 : l.stackTraces = false) (b : Addr) (xs : List Int32) : MetFree l x (headSpec (Jvm.Cond.code x code maxLocals ret :: tables_1) room_1) (lw_P b xs) (fun _ _ _ _ _ => True) lw_Q := by
  refine MetFree.of_bodyS (code := code) (maxLocals := maxLocals) (ret := ret) (by decide) ?_ ?_
  · intro args s m h hn
    obtain ⟨meth, c, h1, h2, h3, h4, h5, h6, -, -⟩ := Cond.code_spec hn (atoms_spec (ws := Jvm.Cond.code x code maxLocals ret :: tables_1) h _ List.mem_cons_self)
    exact ⟨meth, c, h1, h2, h3, h4, h5, h6⟩
  · intro p e s m args below meth c s₁ B hml0 hP _
    obtain ⟨rfl, hx, hbd, hgv⟩ := hP
    obtain ⟨scr, harrAt, hlist, hof, hsmall⟩ := hx
    obtain ⟨hcb, hkn, -, -⟩ := State.arrayAt?_spec harrAt
    have hown : s.vm.findClass R_law = some m.cls := findClass_of_methodNamed B.named
    have hts0 : ∀ c ∈ (Jvm.Cond.code x code maxLocals ret :: tables_1), c.before #[Value.ref b] s = true := atoms_spec (ws := Jvm.Cond.code x code maxLocals ret :: tables_1) B.pre
    have hts : ∀ w ∈ lw_tbl, w.before #[Value.ref b] s = true := k2_hts_sels lw_privs (fun w hw => hts0 w (List.mem_cons_of_mem _ hw)) lw_privs_ok
    have hml : c.maxLocals = 7 := B.maxLocals_eq (hts0 _ List.mem_cons_self)
    have X₀ : Stand p l e room_1 s m #[Value.ref b] below meth c s₁ [] 0 0 := Stand.of_body B
    have hh0 : s₁.heap = s.heap := by rw [B.state]; rfl
    have hsz : scr.slots.size = xs.length := by rw [← Array.length_toList, hlist, List.length_map]
    have hval : ∀ j : Nat, j < xs.length → scr.slots[j]? = some (.int (xs.getD j 0)) := fun j hj => by
      rw [← Array.getElem?_toList, hlist]
      simp [hj]
    have hbl : b < s.heap.size := (Array.getElem?_eq_some_iff.mp hcb).1
    have hX : va_X b xs.length (fun j => xs.getD j 0) s s.heap := ⟨scr, hcb, hof, hkn, hsz, hval⟩
    have K : W p l e room_1 s m #[Value.ref b] below meth c s₁.heap [] 0 0 (lw_Z below #[Value.ref b] s) (entryFrame m ([Value.ref b] : List Value).toArray 7) := by
      rw [hh0]
      exact whole_start l hl9 hbd ⟨B.exec, B.bytes, B.returns, hml, hown, hts, hX, hbl, B.notSynchronized, hgv⟩
    obtain ⟨t, a1, o, b1, b2, b3⟩ := K s₁ rfl X₀
    exact ⟨t, o, a1, b1, b2, b3⟩
theorem lw_pre_spec {args : Array Value} {s : State} (h : (Jvm.Cond.and given_1 narrow_1).before args s = true) (hr : rest_1_c.before args s = true) : ∃ (b : Addr) (xs : List Int32), lw_P b xs args s := by
  have hs := flat_of_before _ h
  have hq := flat_of_before _ hr
  have hc : (Cond.count 1).before args s = true := hs _ (by decide +kernel)
  have harr : (Cond.arrayOf (.arg 0) .int).before args s = true := hs _ (by decide +kernel)
  have hle : (Cond.le (.length (.arg 0)) (.int 3072)).before args s = true := hs _ (by decide +kernel)
  have hlen : (Cond.isInt (.length (.arg 0))).before args s = true := hq _ (by decide +kernel)
  have hall : (Cond.all (.arg 0) (.isInt (.elem (.arg 0) (.index 0)))).before args s = true := hq _ (by decide +kernel)
  obtain ⟨b, xs, hb, hx⟩ := State.ints_of_pre rfl harr hlen hall
  have hsm : xs.length < 2 ^ 31 := hx.choose_spec.2.2.2
  have hev : (Term.length (.arg 0)).eval args s none [] s = some (.int xs.length.toInt32) := hx.length_eval hb
  have hv := Cond.le_ints hev (show (Term.int 3072).eval args s none [] s = some (.int 3072) from rfl)
  have hd : xs.length.toInt32 ≤ 3072 := by
    simpa [Cond.before, Cond.holds, hv] using hle
  have hN : xs.length ≤ 3072 := (Int32.ofNat_le_ofNat hsm (by decide)).mp (show Int32.ofNat xs.length ≤ Int32.ofNat 3072 from hd)
  exact ⟨b, xs, Cond.one_arg hc (show args[0]? = some (.ref b) from hb), hx, hN, h⟩
theorem lw_comes (l : Launch) (hl9 : l.stackTraces = false) : Comes l x (Jvm.Cond.code x code maxLocals ret :: tables_1) room_1 (fun tb e args s => Calls_1 tb e args s ∧ rest_1 tb e args s ∧ Pre_1 tb e args s)
    (fun _ _ args s o t => lw_Q args s o t) := by
  intro p e ha hc hk s m args below hf hfit hheap happ hpre
  obtain ⟨b, xs, hP⟩ := lw_pre_spec hpre.2.2 hpre.2.1
  obtain ⟨k, o, h1, h2, h3, hQ⟩ := lw_walk l hl9 b xs p e ha hc hk s m args below hf ((Spec.applies_iff_loose hf).mp happ).1 hP trivial
  exact ⟨k, o, h1, h2, h3, hQ⟩
theorem lw_frame {s t : State} {o : Outcome} {args : Array Value} (h : Framed s o t [] 601024 7293034) :
    Framed s o t (fieldLocs frame_1_writes args s ++ arrayLocs frame_1_arrays args s ++ staticLocs frame_1_statics s) 601024 7293034 := h
theorem lw_limb (L : Cond) (hL : ∀ (args : Array Value) (s t : State), L.after args s (.returned (some (.int 1))) t = true) :
    ArmFor flags0 classFile x code maxLocals ret World_1 tables_1 room_1 Calls_1 rest_1 Pre_1
      (fun tb e a s o t => postC L tb e a s o t ∧ Framed s o t (fieldLocs frame_1_writes a s ++ arrayLocs frame_1_arrays a s ++ staticLocs frame_1_statics s) 601024 7293034) := by
  intro l hfl _ _ p e ha hc hk s m args below hf hfit hheap happ hpre
  obtain ⟨k, o, h1, h2, h3, rfl, hF⟩ := lw_comes l (by unfold Launch.stackTraces; rw [hfl]; decide) p e ha hc hk s m args below hf hfit hheap happ hpre
  exact ⟨k, _, h1, h2, h3, hL args s _, lw_frame hF⟩
theorem i_vc : Claimed_1_1 ∧ Claimed_1_2 := ⟨lw_limb limb_1_1 (fun args s t => by simp [limb_1_1, Cond.after, Cond.holds, Cond.value]), lw_limb limb_1_2 (fun args s t => Cond.after_iff.mpr (by
  first | (rw [show limb_1_2 = Cond.eq .result (.int 1) from rfl, Cond.eq_ints (x := 1) (y := 1) rfl rfl]; simp; done) | (simp [limb_1_2, Cond.value, Term.eval]; done)))⟩
