theorem clL13 : Cond.classLink RL 13 xIAE ∈ TB := TB_all (L := [Cond.classLink RL 13 xIAE]) (by decide +kernel) _ List.mem_cons_self
theorem clL25 : Cond.classLink RL 25 xISE ∈ TB := TB_all (L := [Cond.classLink RL 25 xISE]) (by decide +kernel) _ List.mem_cons_self
theorem clL19 : Cond.classLink RL 19 xUOE ∈ TB := TB_all (L := [Cond.classLink RL 19 xUOE]) (by decide +kernel) _ List.mem_cons_self
theorem badm0 : Cond.castable xIAE xIAE ∈ badX := List.mem_of_getElem? (i := 0) rfl
theorem badm1 : Cond.castable xUOE xUOE ∈ badX := List.mem_of_getElem? (i := 1) rfl
theorem badm2 : Cond.castable xISE xISE ∈ badX := List.mem_of_getElem? (i := 2) rfl
theorem cat_format_xIAE : CAT RL [(0, 6, 9, 13)] 3 xIAE 9 := ⟨[], ⟨0, 6, 9, 13⟩, [], xIAE, rfl, (fun _ h => absurd h List.not_mem_nil), by decide, by decide, clL13, badm0, rfl⟩
theorem cat_feed_xIAE : CAT RL [(0, 13, 16, 13), (0, 13, 20, 19)] 8 xIAE 16 := ⟨[], ⟨0, 13, 16, 13⟩, [⟨0, 13, 20, 19⟩], xIAE, rfl, (fun _ h => absurd h List.not_mem_nil), by decide, by decide, clL13, badm0, rfl⟩
theorem cat_feed_xUOE : CAT RL [(0, 13, 16, 13), (0, 13, 20, 19)] 8 xUOE 20 := ⟨[⟨0, 13, 16, 13⟩], ⟨0, 13, 20, 19⟩, [], xUOE, rfl, (fun w h => (List.mem_singleton.mp h) ▸ ⟨by decide, xIAE, clL13, Or.inr ⟨rfl, rfl⟩⟩), by decide, by decide, clL19, badm1, rfl⟩
theorem cat_put_xISE : CAT RL [(0, 9, 12, 25), (0, 9, 15, 13)] 4 xISE 12 := ⟨[], ⟨0, 9, 12, 25⟩, [⟨0, 9, 15, 13⟩], xISE, rfl, (fun _ h => absurd h List.not_mem_nil), by decide, by decide, clL25, badm2, rfl⟩
theorem cat_put_xIAE : CAT RL [(0, 9, 12, 25), (0, 9, 15, 13)] 4 xIAE 15 := ⟨[⟨0, 9, 12, 25⟩], ⟨0, 9, 15, 13⟩, [], xIAE, rfl, (fun w h => (List.mem_singleton.mp h) ▸ ⟨by decide, xISE, clL25, Or.inl ⟨rfl, rfl⟩⟩), by decide, by decide, clL13, badm0, rfl⟩
theorem cat_remove_xISE : CAT RL [(0, 8, 11, 25), (0, 8, 14, 13)] 3 xISE 11 := ⟨[], ⟨0, 8, 11, 25⟩, [⟨0, 8, 14, 13⟩], xISE, rfl, (fun _ h => absurd h List.not_mem_nil), by decide, by decide, clL25, badm2, rfl⟩
theorem cat_remove_xIAE : CAT RL [(0, 8, 11, 25), (0, 8, 14, 13)] 3 xIAE 14 := ⟨[⟨0, 8, 11, 25⟩], ⟨0, 8, 14, 13⟩, [], xIAE, rfl, (fun w h => (List.mem_singleton.mp h) ▸ ⟨by decide, xISE, clL25, Or.inl ⟨rfl, rfl⟩⟩), by decide, by decide, clL13, badm0, rfl⟩
theorem cat_get_xISE : CAT RL [(0, 8, 11, 25)] 3 xISE 11 := ⟨[], ⟨0, 8, 11, 25⟩, [], xISE, rfl, (fun _ h => absurd h List.not_mem_nil), by decide, by decide, clL25, badm2, rfl⟩
theorem cat_power_xISE : CAT RL [(0, 5, 8, 25), (0, 5, 11, 13)] 2 xISE 8 := ⟨[], ⟨0, 5, 8, 25⟩, [⟨0, 5, 11, 13⟩], xISE, rfl, (fun _ h => absurd h List.not_mem_nil), by decide, by decide, clL25, badm2, rfl⟩
theorem cat_power_xIAE : CAT RL [(0, 5, 8, 25), (0, 5, 11, 13)] 2 xIAE 11 := ⟨[⟨0, 5, 8, 25⟩], ⟨0, 5, 11, 13⟩, [], xIAE, rfl, (fun w h => (List.mem_singleton.mp h) ▸ ⟨by decide, xISE, clL25, Or.inl ⟨rfl, rfl⟩⟩), by decide, by decide, clL13, badm0, rfl⟩
theorem cat_recover_xIAE : CAT RL [(0, 9, 12, 13)] 4 xIAE 12 := ⟨[], ⟨0, 9, 12, 13⟩, [], xIAE, rfl, (fun _ h => absurd h List.not_mem_nil), by decide, by decide, clL13, badm0, rfl⟩
set_option maxHeartbeats 1000000 in
set_option maxRecDepth 20000 in
theorem z_L_format {D : va_G} {cI cB cJ cZ : ClassId} {hx hd hc hk hch hb hbb hh hhb ht htb ha hj hi hjb hib : Nat} {an ko : Int} {pg lg : Nat} {wt al dn : Int} {tp : Nat} {C K fb fh fj fi T An : Nat → Nat} {P L : Int} (hP : in32 P) (hL : in32 L) : ∀ l : Launch, l.stackTraces = false → Lh l yL_format cL_format 4 (some .int) [(0, 6, 9, 13)] ({ frames := 9, cells := 1, slots := 6, locals := 172 }) D (TY cI cB cJ cZ) [.ref hx, .int (iI P), .int (iI L)] [oHash hx hd hch hb hh ht ha an, oDisk hd hc hk ko pg lg wt al dn, aN cI hc 65280 C, aN cI hk 255 K, oChange hch hd hj hi, oPage hb hbb, aN cI hbb 256 fb, oPage hh hhb, aN cI hhb 256 fh, oPage hj hjb, aN cI hjb 256 fj, oPage hi hib, aN cI hib 256 fi, oTape ht htb ((tp : Nat) : Int), aN cI htb 48 T, aN cI ha 32 An] (fun v w1 => (v = some (.int (iI 0)) ∧ fmOk P L ∧ w1 = [oHash hx hd hch hb hh ht ha 0, oDisk hd hc hk 1 P.toNat L.toNat 0 (-1) 0, aN cI hc 65280 (fmC C P.toNat L.toNat), aN cI hk 255 K, oChange hch hd hj hi, oPage hb hbb, aN cI hbb 256 (fun _ => 0), oPage hh hhb, aN cI hhb 256 fh, oPage hj hjb, aN cI hjb 256 fj, oPage hi hib, aN cI hib 256 fi, oTape ht htb ((tp : Nat) : Int), aN cI htb 48 T, aN cI ha 32 An]) ∨ (v = some (.int (iI 1)) ∧ ¬ fmOk P L ∧ w1 = [oHash hx hd hch hb hh ht ha an, oDisk hd hc hk ko pg lg wt al dn, aN cI hc 65280 C, aN cI hk 255 K, oChange hch hd hj hi, oPage hb hbb, aN cI hbb 256 fb, oPage hh hhb, aN cI hhb 256 fh, oPage hj hjb, aN cI hjb 256 fj, oPage hi hib, aN cI hib 256 fi, oTape ht htb ((tp : Nat) : Int), aN cI htb 48 T, aN cI ha 32 An])) := by
  intro l hst9
  refine Lh_of hst9 (by decide) (Nat.le_of_ble_eq_true rfl) (fun x k hq kl => ?_)
  refine v_aload_n (n := 1) k dL_format_0 rfl rfl ?_
  refine v_iload_n (n := 2) k dL_format_1 rfl rfl ?_
  refine v_iload_n (n := 3) k dL_format_2 rfl rfl ?_
  refine v_callX (n := 6) k kl [0, 1, 2, 3, 4, 5, 6, 7, 8, 9, 10, 11, 12, 13, 14, 15] 0 (z_X4_format hP hL) miX4_format ml_L_7 (by decide) (by decide) rfl (by decide) rfl rfl rfl rfl (Nat.le_of_ble_eq_true rfl) (by decide) dL_format_3 rfl ?_ ?_
  · rintro E w1 ⟨rfl, hno, rfl⟩
    refine ⟨9, cat_format_xIAE, fun q9 => ?_⟩
    dsimp only [wput, List.set, Option.toList, List.nil_append, List.cons_append]
    refine v_astore_n (n := 10) k dL_format_9 rfl (by decide) rfl rfl ?_
    refine v_iconst (n := 11) k dL_format_10 rfl ?_
    refine v_iretL k hq ?_ rfl dL_format_11
    exact Or.inr ⟨rfl, hno, rfl⟩
  · rintro v w1 ⟨rfl, hok, rfl⟩
    dsimp only [wput, List.set, Option.toList, List.nil_append, List.cons_append]
    refine v_goto (t := 12) k dL_format_6 (by decide) ?_
    refine v_iconst (n := 13) k dL_format_12 rfl ?_
    refine v_iretL k hq ?_ rfl dL_format_13
    exact Or.inl ⟨rfl, hok, rfl⟩
set_option maxHeartbeats 1000000 in
set_option maxRecDepth 20000 in
theorem z_L_power {D : va_G} {cI cB cJ cZ : ClassId} {hx hd hc hk hch hb hbb hh hhb ht htb ha hj hi hjb hib : Nat} {an ko : Int} {pg lg : Nat} {wt al dn : Int} {tp : Nat} {C K fb fh fj fi T An : Nat → Nat} {N : Int} (hN : in32 N) (hdn : dn = 0 ∨ dn = 1) : ∀ l : Launch, l.stackTraces = false → Lh l yL_power cL_power 3 (some .int) [(0, 5, 8, 25), (0, 5, 11, 13)] ({ frames := 9, cells := 1, slots := 6, locals := 171 }) D (TY cI cB cJ cZ) [.ref hx, .int (iI N)] [oHash hx hd hch hb hh ht ha an, oDisk hd hc hk ko pg lg wt al dn, aN cI hc 65280 C, aN cI hk 255 K, oChange hch hd hj hi, oPage hb hbb, aN cI hbb 256 fb, oPage hh hhb, aN cI hhb 256 fh, oPage hj hjb, aN cI hjb 256 fj, oPage hi hib, aN cI hib 256 fi, oTape ht htb ((tp : Nat) : Int), aN cI htb 48 T, aN cI ha 32 An] (fun v w1 => (v = some (.int (iI 0)) ∧ (dn = 0 ∧ ¬ N < -1) ∧ w1 = [oHash hx hd hch hb hh ht ha an, oDisk hd hc hk ko pg lg wt N 0, aN cI hc 65280 C, aN cI hk 255 K, oChange hch hd hj hi, oPage hb hbb, aN cI hbb 256 fb, oPage hh hhb, aN cI hhb 256 fh, oPage hj hjb, aN cI hjb 256 fj, oPage hi hib, aN cI hib 256 fi, oTape ht htb ((tp : Nat) : Int), aN cI htb 48 T, aN cI ha 32 An]) ∨ (v = some (.int (iI (if dn = 1 then 1 else 2))) ∧ (dn = 1 ∨ N < -1) ∧ w1 = [oHash hx hd hch hb hh ht ha an, oDisk hd hc hk ko pg lg wt al dn, aN cI hc 65280 C, aN cI hk 255 K, oChange hch hd hj hi, oPage hb hbb, aN cI hbb 256 fb, oPage hh hhb, aN cI hhb 256 fh, oPage hj hjb, aN cI hjb 256 fj, oPage hi hib, aN cI hib 256 fi, oTape ht htb ((tp : Nat) : Int), aN cI htb 48 T, aN cI ha 32 An])) := by
  intro l hst9
  refine Lh_of hst9 (by decide) (Nat.le_of_ble_eq_true rfl) (fun x k hq kl => ?_)
  refine v_aload_n (n := 1) k dL_power_0 rfl rfl ?_
  refine v_iload_n (n := 2) k dL_power_1 rfl rfl ?_
  refine v_callX (n := 5) k kl [0, 1, 2, 3, 4, 5, 6, 7, 8, 9, 10, 11, 12, 13, 14, 15] 0 (z_X4_power hN hdn) miX4_power ml_L_34 (by decide) (by decide) rfl (by decide) rfl rfl rfl rfl (Nat.le_of_ble_eq_true rfl) (by decide) dL_power_2 rfl ?_ ?_
  · rintro E w1 ⟨⟨rfl, hd1⟩ | ⟨rfl, hd1, hd2⟩, rfl⟩
    · refine ⟨8, cat_power_xISE, fun q9 => ?_⟩
      dsimp only [wput, List.set, Option.toList, List.nil_append, List.cons_append]
      refine v_astore_n (n := 9) k dL_power_8 rfl (by decide) rfl rfl ?_
      refine v_iconst (n := 10) k dL_power_9 rfl ?_
      refine v_iretL k hq ?_ rfl dL_power_10
      exact Or.inr ⟨by rw [if_pos hd1], Or.inl hd1, rfl⟩
    · refine ⟨11, cat_power_xIAE, fun q9 => ?_⟩
      dsimp only [wput, List.set, Option.toList, List.nil_append, List.cons_append]
      refine v_astore_n (n := 12) k dL_power_11 rfl (by decide) rfl rfl ?_
      refine v_iconst (n := 13) k dL_power_12 rfl ?_
      refine v_iretL k hq ?_ rfl dL_power_13
      exact Or.inr ⟨by rw [if_neg (by omega)], Or.inr hd2, rfl⟩
  · rintro v w1 ⟨rfl, hok, rfl⟩
    dsimp only [wput, List.set, Option.toList, List.nil_append, List.cons_append]
    refine v_goto (t := 14) k dL_power_5 (by decide) ?_
    refine v_iconst (n := 15) k dL_power_14 rfl ?_
    refine v_iretL k hq ?_ rfl dL_power_15
    exact Or.inl ⟨rfl, hok, rfl⟩
set_option maxHeartbeats 1000000 in
set_option maxRecDepth 20000 in
theorem z_L_feed {D : va_G} {cI cB cJ cZ : ClassId} {hx hd hc hk hch hb hbb hh hhb ht htb ha hj hi hjb hib : Nat} {an ko : Int} {pg lg : Nat} {wt al dn : Int} {tp : Nat} {C K fb fh fj fi T An : Nat → Nat} {ho : Nat} {O : Nat → Int64} {N : Int} {Aw Bw : Int64} (hN : in32 N) (htp : tp ≤ 48) : ∀ l : Launch, l.stackTraces = false → Lh l yL_feed cL_feed 8 (some .int) [(0, 13, 16, 13), (0, 13, 20, 19)] ({ frames := 9, cells := 1, slots := 6, locals := 178 }) D (TY cI cB cJ cZ) [.ref hx, .int (iI N), .long Aw, .long Bw, .ref ho] [oHash hx hd hch hb hh ht ha an, oDisk hd hc hk ko pg lg wt al dn, aN cI hc 65280 C, aN cI hk 255 K, oChange hch hd hj hi, oPage hb hbb, aN cI hbb 256 fb, oPage hh hhb, aN cI hhb 256 fh, oPage hj hjb, aN cI hjb 256 fj, oPage hi hib, aN cI hib 256 fi, oTape ht htb ((tp : Nat) : Int), aN cI htb 48 T, aN cI ha 32 An, aL cJ ho 1 (O)] (fun v w1 => (v = some (.int (iI 0)) ∧ fdT N tp = 0 ∧ w1 = [oHash hx hd hch hb hh ht ha an, oDisk hd hc hk ko pg lg wt al dn, aN cI hc 65280 C, aN cI hk 255 K, oChange hch hd hj hi, oPage hb hbb, aN cI hbb 256 fb, oPage hh hhb, aN cI hhb 256 fh, oPage hj hjb, aN cI hjb 256 fj, oPage hi hib, aN cI hib 256 fi, oTape ht htb ((tp + N.toNat : Nat) : Int), aN cI htb 48 (tpF T tp Aw Bw N.toNat), aN cI ha 32 An, aL cJ ho 1 (vp_updL O 0 (iI ((tp + N.toNat : Nat) : Int)).toInt64)]) ∨ (v = some (.int (iI (fdT N tp))) ∧ fdT N tp ≠ 0 ∧ w1 = [oHash hx hd hch hb hh ht ha an, oDisk hd hc hk ko pg lg wt al dn, aN cI hc 65280 C, aN cI hk 255 K, oChange hch hd hj hi, oPage hb hbb, aN cI hbb 256 fb, oPage hh hhb, aN cI hhb 256 fh, oPage hj hjb, aN cI hjb 256 fj, oPage hi hib, aN cI hib 256 fi, oTape ht htb ((tp : Nat) : Int), aN cI htb 48 T, aN cI ha 32 An, aL cJ ho 1 (O)])) := by
  intro l hst9
  refine Lh_of hst9 (by decide) (Nat.le_of_ble_eq_true rfl) (fun x k hq kl => ?_)
  refine v_aload (n := 2) k dL_feed_0 rfl rfl ?_
  refine v_iconst (n := 3) k dL_feed_2 rfl ?_
  refine v_aload_n (n := 4) k dL_feed_3 rfl rfl ?_
  refine v_iload_n (n := 5) k dL_feed_4 rfl rfl ?_
  refine v_lload_n (n := 6) k dL_feed_5 rfl rfl ?_
  refine v_lload (n := 8) k dL_feed_6 rfl rfl ?_
  refine v_callX (n := 11) k kl [0, 1, 2, 3, 4, 5, 6, 7, 8, 9, 10, 11, 12, 13, 14, 15] 0 (z_X4_feed hN htp) miX4_feed ml_L_15 (by decide) (by decide) rfl (by decide) rfl rfl rfl rfl (Nat.le_of_ble_eq_true rfl) (by decide) dL_feed_8 rfl ?_ ?_
  · rintro E w1 ⟨⟨rfl, ht9⟩ | ⟨rfl, ht9⟩, rfl⟩
    · refine ⟨16, cat_feed_xIAE, fun q9 => ?_⟩
      dsimp only [wput, List.set, Option.toList, List.nil_append, List.cons_append]
      refine v_astore (n := 18) k dL_feed_16 rfl (by decide) rfl rfl ?_
      refine v_iconst (n := 19) k dL_feed_18 rfl ?_
      refine v_iretL k hq ?_ rfl dL_feed_19
      exact Or.inr ⟨by rw [ht9], by rw [ht9]; decide, rfl⟩
    · refine ⟨20, cat_feed_xUOE, fun q9 => ?_⟩
      dsimp only [wput, List.set, Option.toList, List.nil_append, List.cons_append]
      refine v_astore (n := 22) k dL_feed_20 rfl (by decide) rfl rfl ?_
      refine v_iconst (n := 23) k dL_feed_22 rfl ?_
      refine v_iretL k hq ?_ rfl dL_feed_23
      exact Or.inr ⟨by rw [ht9], by rw [ht9]; decide, rfl⟩
  · rintro v w1 ⟨ht9, rfl, rfl⟩
    dsimp only [wput, List.set, Option.toList, List.nil_append, List.cons_append]
    refine v_i2l (n := 12) k dL_feed_11 rfl ?_
    refine v_lastN (n := 13) k 16 2 (0) rfl rfl (by omega) (by omega) (by omega)  dL_feed_12 rfl ?_
    refine v_goto (t := 24) k dL_feed_13 (by decide) ?_
    refine v_iconst (n := 25) k dL_feed_24 rfl ?_
    refine v_iretL k hq ?_ rfl dL_feed_25
    exact Or.inl ⟨rfl, ht9, rfl⟩
set_option maxHeartbeats 1000000 in
set_option maxRecDepth 20000 in
theorem z_L_put {D : va_G} {cI cB cJ cZ : ClassId} {hx hd hc hk hch hb hbb hh hhb ht htb ha hj hi hjb hib : Nat} {an ko : Int} {pg lg : Nat} {wt al dn : Int} {tp : Nat} {C K fb fh fj fi T An : Nat → Nat} {ho : Nat} {O : Nat → Int64} {KK : Int} (hKK : in32 KK) (hdn : dn = 0 ∨ dn = 1) (hU : dn = 0 → INV pg lg C) (htp : tp ≤ 48) (hT : ∀ j, T j < 256) (hks : KS ko K C pg lg) (hal : in32 al) : ∀ l : Launch, l.stackTraces = false → Lh l yL_put cL_put 4 (some .int) [(0, 9, 12, 25), (0, 9, 15, 13)] ({ frames := 9, cells := 1, slots := 6, locals := 214 }) D (TY cI cB cJ cZ) [.ref hx, .int (iI KK), .ref ho] [oHash hx hd hch hb hh ht ha an, oDisk hd hc hk ko pg lg wt al dn, aN cI hc 65280 C, aN cI hk 255 K, oChange hch hd hj hi, oPage hb hbb, aN cI hbb 256 fb, oPage hh hhb, aN cI hhb 256 fh, oPage hj hjb, aN cI hjb 256 fj, oPage hi hib, aN cI hib 256 fi, oTape ht htb ((tp : Nat) : Int), aN cI htb 48 T, aN cI ha 32 An, aL cJ ho 1 (O)] (fun v w1 => (v = some (.int (iI 0)) ∧ puT dn KK tp = 0 ∧ ∃ (a9 : DA) (s9 ko9 : Int) (K9 fb9 fh9 fj9 fi9 : Nat → Nat), pfF pg lg T KK.toNat tp (C, wt, al, 0) = (s9, a9) ∧ KS ko9 K9 a9.1 pg lg ∧ in32 a9.2.2.1 ∧ w1 = [oHash hx hd hch hb hh ht ha an, oDisk hd hc hk ko9 pg lg a9.2.1 a9.2.2.1 a9.2.2.2, aN cI hc 65280 a9.1, aN cI hk 255 K9, oChange hch hd hj hi, oPage hb hbb, aN cI hbb 256 fb9, oPage hh hhb, aN cI hhb 256 fh9, oPage hj hjb, aN cI hjb 256 fj9, oPage hi hib, aN cI hib 256 fi9, oTape ht htb 0, aN cI htb 48 T, aN cI ha 32 An, aL cJ ho 1 (vp_updL O 0 (iI s9).toInt64)]) ∨ (v = some (.int (iI (puT dn KK tp))) ∧ puT dn KK tp ≠ 0 ∧ w1 = [oHash hx hd hch hb hh ht ha an, oDisk hd hc hk ko pg lg wt al dn, aN cI hc 65280 C, aN cI hk 255 K, oChange hch hd hj hi, oPage hb hbb, aN cI hbb 256 fb, oPage hh hhb, aN cI hhb 256 fh, oPage hj hjb, aN cI hjb 256 fj, oPage hi hib, aN cI hib 256 fi, oTape ht htb 0, aN cI htb 48 T, aN cI ha 32 An, aL cJ ho 1 (O)])) := by
  intro l hst9
  refine Lh_of hst9 (by decide) (Nat.le_of_ble_eq_true rfl) (fun x k hq kl => ?_)
  refine v_aload_n (n := 1) k dL_put_0 rfl rfl ?_
  refine v_iconst (n := 2) k dL_put_1 rfl ?_
  refine v_aload_n (n := 3) k dL_put_2 rfl rfl ?_
  refine v_iload_n (n := 4) k dL_put_3 rfl rfl ?_
  refine v_callX (n := 7) k kl [0, 1, 2, 3, 4, 5, 6, 7, 8, 9, 10, 11, 12, 13, 14, 15] 0 (z_X4_put hKK hdn hU htp hT hks hal) miX4_put ml_L_21 (by decide) (by decide) rfl (by decide) rfl rfl rfl rfl (Nat.le_of_ble_eq_true rfl) (by decide) dL_put_4 rfl ?_ ?_
  · rintro E w1 ⟨⟨rfl, ht9⟩ | ⟨rfl, ht9⟩, rfl⟩
    · refine ⟨12, cat_put_xISE, fun q9 => ?_⟩
      dsimp only [wput, List.set, Option.toList, List.nil_append, List.cons_append]
      refine v_astore_n (n := 13) k dL_put_12 rfl (by decide) rfl rfl ?_
      refine v_iconst (n := 14) k dL_put_13 rfl ?_
      refine v_iretL k hq ?_ rfl dL_put_14
      exact Or.inr ⟨by rw [ht9], by rw [ht9]; decide, rfl⟩
    · refine ⟨15, cat_put_xIAE, fun q9 => ?_⟩
      dsimp only [wput, List.set, Option.toList, List.nil_append, List.cons_append]
      refine v_astore_n (n := 16) k dL_put_15 rfl (by decide) rfl rfl ?_
      refine v_iconst (n := 17) k dL_put_16 rfl ?_
      refine v_iretL k hq ?_ rfl dL_put_17
      exact Or.inr ⟨by rw [ht9], by rw [ht9]; decide, rfl⟩
  · rintro v w1 ⟨ht9, a9, s9, ko9, K9, fb9, fh9, fj9, fi9, hF9, rfl, hks9, hal9, rfl⟩
    dsimp only [wput, List.set, Option.toList, List.nil_append, List.cons_append]
    refine v_i2l (n := 8) k dL_put_7 rfl ?_
    refine v_lastN (n := 9) k 16 2 (0) rfl rfl (by omega) (by omega) (by omega)  dL_put_8 rfl ?_
    refine v_goto (t := 18) k dL_put_9 (by decide) ?_
    refine v_iconst (n := 19) k dL_put_18 rfl ?_
    refine v_iretL k hq ?_ rfl dL_put_19
    exact Or.inl ⟨rfl, ht9, a9, s9, ko9, K9, fb9, fh9, fj9, fi9, hF9, hks9, hal9, rfl⟩
set_option maxHeartbeats 1000000 in
set_option maxRecDepth 20000 in
theorem z_L_remove {D : va_G} {cI cB cJ cZ : ClassId} {hx hd hc hk hch hb hbb hh hhb ht htb ha hj hi hjb hib : Nat} {an ko : Int} {pg lg : Nat} {wt al dn : Int} {tp : Nat} {C K fb fh fj fi T An : Nat → Nat} {ho : Nat} {O : Nat → Int64}  (hdn : dn = 0 ∨ dn = 1) (hU : dn = 0 → INV pg lg C) (htp : tp ≤ 48) (hT : ∀ j, T j < 256) (hks : KS ko K C pg lg) (hal : in32 al) : ∀ l : Launch, l.stackTraces = false → Lh l yL_remove cL_remove 3 (some .int) [(0, 8, 11, 25), (0, 8, 14, 13)] ({ frames := 9, cells := 1, slots := 6, locals := 214 }) D (TY cI cB cJ cZ) [.ref hx, .ref ho] [oHash hx hd hch hb hh ht ha an, oDisk hd hc hk ko pg lg wt al dn, aN cI hc 65280 C, aN cI hk 255 K, oChange hch hd hj hi, oPage hb hbb, aN cI hbb 256 fb, oPage hh hhb, aN cI hhb 256 fh, oPage hj hjb, aN cI hjb 256 fj, oPage hi hib, aN cI hib 256 fi, oTape ht htb ((tp : Nat) : Int), aN cI htb 48 T, aN cI ha 32 An, aL cJ ho 1 (O)] (fun v w1 => (v = some (.int (iI 0)) ∧ rmT dn tp = 0 ∧ ∃ (a9 : DA) (s9 ko9 : Int) (K9 fb9 fh9 fj9 fi9 : Nat → Nat), rvF pg lg T tp (C, wt, al, 0) = (s9, a9) ∧ KS ko9 K9 a9.1 pg lg ∧ in32 a9.2.2.1 ∧ w1 = [oHash hx hd hch hb hh ht ha an, oDisk hd hc hk ko9 pg lg a9.2.1 a9.2.2.1 a9.2.2.2, aN cI hc 65280 a9.1, aN cI hk 255 K9, oChange hch hd hj hi, oPage hb hbb, aN cI hbb 256 fb9, oPage hh hhb, aN cI hhb 256 fh9, oPage hj hjb, aN cI hjb 256 fj9, oPage hi hib, aN cI hib 256 fi9, oTape ht htb 0, aN cI htb 48 T, aN cI ha 32 An, aL cJ ho 1 (vp_updL O 0 (iI s9).toInt64)]) ∨ (v = some (.int (iI (rmT dn tp))) ∧ rmT dn tp ≠ 0 ∧ w1 = [oHash hx hd hch hb hh ht ha an, oDisk hd hc hk ko pg lg wt al dn, aN cI hc 65280 C, aN cI hk 255 K, oChange hch hd hj hi, oPage hb hbb, aN cI hbb 256 fb, oPage hh hhb, aN cI hhb 256 fh, oPage hj hjb, aN cI hjb 256 fj, oPage hi hib, aN cI hib 256 fi, oTape ht htb 0, aN cI htb 48 T, aN cI ha 32 An, aL cJ ho 1 (O)])) := by
  intro l hst9
  refine Lh_of hst9 (by decide) (Nat.le_of_ble_eq_true rfl) (fun x k hq kl => ?_)
  refine v_aload_n (n := 1) k dL_remove_0 rfl rfl ?_
  refine v_iconst (n := 2) k dL_remove_1 rfl ?_
  refine v_aload_n (n := 3) k dL_remove_2 rfl rfl ?_
  refine v_callX (n := 6) k kl [0, 1, 2, 3, 4, 5, 6, 7, 8, 9, 10, 11, 12, 13, 14, 15] 0 (z_X4_remove hdn hU htp hT hks hal) miX4_remove ml_L_27 (by decide) (by decide) rfl (by decide) rfl rfl rfl rfl (Nat.le_of_ble_eq_true rfl) (by decide) dL_remove_3 rfl ?_ ?_
  · rintro E w1 ⟨⟨rfl, ht9⟩ | ⟨rfl, ht9⟩, rfl⟩
    · refine ⟨11, cat_remove_xISE, fun q9 => ?_⟩
      dsimp only [wput, List.set, Option.toList, List.nil_append, List.cons_append]
      refine v_astore_n (n := 12) k dL_remove_11 rfl (by decide) rfl rfl ?_
      refine v_iconst (n := 13) k dL_remove_12 rfl ?_
      refine v_iretL k hq ?_ rfl dL_remove_13
      exact Or.inr ⟨by rw [ht9], by rw [ht9]; decide, rfl⟩
    · refine ⟨14, cat_remove_xIAE, fun q9 => ?_⟩
      dsimp only [wput, List.set, Option.toList, List.nil_append, List.cons_append]
      refine v_astore_n (n := 15) k dL_remove_14 rfl (by decide) rfl rfl ?_
      refine v_iconst (n := 16) k dL_remove_15 rfl ?_
      refine v_iretL k hq ?_ rfl dL_remove_16
      exact Or.inr ⟨by rw [ht9], by rw [ht9]; decide, rfl⟩
  · rintro v w1 ⟨ht9, a9, s9, ko9, K9, fb9, fh9, fj9, fi9, hF9, rfl, hks9, hal9, rfl⟩
    dsimp only [wput, List.set, Option.toList, List.nil_append, List.cons_append]
    refine v_i2l (n := 7) k dL_remove_6 rfl ?_
    refine v_lastN (n := 8) k 16 2 (0) rfl rfl (by omega) (by omega) (by omega)  dL_remove_7 rfl ?_
    refine v_goto (t := 17) k dL_remove_8 (by decide) ?_
    refine v_iconst (n := 18) k dL_remove_17 rfl ?_
    refine v_iretL k hq ?_ rfl dL_remove_18
    exact Or.inl ⟨rfl, ht9, a9, s9, ko9, K9, fb9, fh9, fj9, fi9, hF9, hks9, hal9, rfl⟩
set_option maxHeartbeats 1000000 in
set_option maxRecDepth 20000 in
theorem z_L_get {D : va_G} {cI cB cJ cZ : ClassId} {hx hd hc hk hch hb hbb hh hhb ht htb ha hj hi hjb hib : Nat} {an ko : Int} {pg lg : Nat} {wt al dn : Int} {tp : Nat} {C K fb fh fj fi T An : Nat → Nat} {ho : Nat} {O : Nat → Int64}  (hdn : dn = 0 ∨ dn = 1) (hU : dn = 0 → INV pg lg C) (htp : tp ≤ 48) (hT : ∀ j, T j < 256) : ∀ l : Launch, l.stackTraces = false → Lh l yL_get cL_get 3 (some .int) [(0, 8, 11, 25)] ({ frames := 9, cells := 1, slots := 6, locals := 175 }) D (TY cI cB cJ cZ) [.ref hx, .ref ho] [oHash hx hd hch hb hh ht ha an, oDisk hd hc hk ko pg lg wt al dn, aN cI hc 65280 C, aN cI hk 255 K, oChange hch hd hj hi, oPage hb hbb, aN cI hbb 256 fb, oPage hh hhb, aN cI hhb 256 fh, oPage hj hjb, aN cI hjb 256 fj, oPage hi hib, aN cI hib 256 fi, oTape ht htb ((tp : Nat) : Int), aN cI htb 48 T, aN cI ha 32 An, aL cJ ho 1 (O)] (fun v w1 => (v = some (.int (iI 0)) ∧ dn = 0 ∧ w1 = [oHash hx hd hch hb hh ht ha (((gtV C T tp).toNat : Nat) : Int), oDisk hd hc hk ko pg lg wt al 0, aN cI hc 65280 C, aN cI hk 255 K, oChange hch hd hj hi, oPage hb hbb, aN cI hbb 256 fb, oPage hh hhb, aN cI hhb 256 fh, oPage hj hjb, aN cI hjb 256 fj, oPage hi hib, aN cI hib 256 fi, oTape ht htb 0, aN cI htb 48 T, aN cI ha 32 (gtB C T tp An), aL cJ ho 1 (vp_updL O 0 (iI (gtV C T tp)).toInt64)]) ∨ (v = some (.int (iI 1)) ∧ dn = 1 ∧ w1 = [oHash hx hd hch hb hh ht ha an, oDisk hd hc hk ko pg lg wt al dn, aN cI hc 65280 C, aN cI hk 255 K, oChange hch hd hj hi, oPage hb hbb, aN cI hbb 256 fb, oPage hh hhb, aN cI hhb 256 fh, oPage hj hjb, aN cI hjb 256 fj, oPage hi hib, aN cI hib 256 fi, oTape ht htb 0, aN cI htb 48 T, aN cI ha 32 An, aL cJ ho 1 (O)])) := by
  intro l hst9
  refine Lh_of hst9 (by decide) (Nat.le_of_ble_eq_true rfl) (fun x k hq kl => ?_)
  refine v_aload_n (n := 1) k dL_get_0 rfl rfl ?_
  refine v_iconst (n := 2) k dL_get_1 rfl ?_
  refine v_aload_n (n := 3) k dL_get_2 rfl rfl ?_
  refine v_callX (n := 6) k kl [0, 1, 2, 3, 4, 5, 6, 7, 8, 9, 10, 11, 12, 13, 14, 15] 0 (z_X4_get hdn hU htp hT) miX4_get ml_L_31 (by decide) (by decide) rfl (by decide) rfl rfl rfl rfl (Nat.le_of_ble_eq_true rfl) (by decide) dL_get_3 rfl ?_ ?_
  · rintro E w1 ⟨rfl, hd1, rfl⟩
    refine ⟨11, cat_get_xISE, fun q9 => ?_⟩
    dsimp only [wput, List.set, Option.toList, List.nil_append, List.cons_append]
    refine v_astore_n (n := 12) k dL_get_11 rfl (by decide) rfl rfl ?_
    refine v_iconst (n := 13) k dL_get_12 rfl ?_
    refine v_iretL k hq ?_ rfl dL_get_13
    exact Or.inr ⟨rfl, hd1, rfl⟩
  · rintro v w1 ⟨hd0, rfl, rfl⟩
    dsimp only [wput, List.set, Option.toList, List.nil_append, List.cons_append]
    refine v_i2l (n := 7) k dL_get_6 rfl ?_
    refine v_lastN (n := 8) k 16 2 (0) rfl rfl (by omega) (by omega) (by omega)  dL_get_7 rfl ?_
    refine v_goto (t := 14) k dL_get_8 (by decide) ?_
    refine v_iconst (n := 15) k dL_get_14 rfl ?_
    refine v_iretL k hq ?_ rfl dL_get_15
    exact Or.inl ⟨rfl, hd0, rfl⟩
set_option maxHeartbeats 1000000 in
set_option maxRecDepth 20000 in
theorem z_L_recover {D : va_G} {cI cB cJ cZ : ClassId} {hx hd hc hk hch hb hbb hh hhb ht htb ha hj hi hjb hib : Nat} {an ko : Int} {pg lg : Nat} {wt al dn : Int} {tp : Nat} {C K fb fh fj fi T An : Nat → Nat} {ho : Nat} {O : Nat → Int64} {N : Int} (hN : in32 N) (hD : DNS C pg lg) (hks : KS ko K C pg lg) : ∀ l : Launch, l.stackTraces = false → Lh l yL_recover cL_recover 4 (some .int) [(0, 9, 12, 13)] ({ frames := 9, cells := 1, slots := 6, locals := 171 }) D (TY cI cB cJ cZ) [.ref hx, .int (iI N), .ref ho] [oHash hx hd hch hb hh ht ha an, oDisk hd hc hk ko pg lg wt al dn, aN cI hc 65280 C, aN cI hk 255 K, oChange hch hd hj hi, oPage hb hbb, aN cI hbb 256 fb, oPage hh hhb, aN cI hhb 256 fh, oPage hj hjb, aN cI hjb 256 fj, oPage hi hib, aN cI hib 256 fi, oTape ht htb ((tp : Nat) : Int), aN cI htb 48 T, aN cI ha 32 An, aL cJ ho 1 (O)] (fun v w1 => (v = some (.int (iI 0)) ∧ ¬ N < -1 ∧ ∃ (a9 : DA) (s9 ko9 : Int) (fj9 fi9 : Nat → Nat), rcF (C, wt, N, 0) = (s9, a9) ∧ KS ko9 K a9.1 pg lg ∧ in32 a9.2.2.1 ∧ w1 = [oHash hx hd hch hb hh ht ha an, oDisk hd hc hk ko9 pg lg a9.2.1 a9.2.2.1 a9.2.2.2, aN cI hc 65280 a9.1, aN cI hk 255 K, oChange hch hd hj hi, oPage hb hbb, aN cI hbb 256 fb, oPage hh hhb, aN cI hhb 256 fh, oPage hj hjb, aN cI hjb 256 fj9, oPage hi hib, aN cI hib 256 fi9, oTape ht htb ((tp : Nat) : Int), aN cI htb 48 T, aN cI ha 32 An, aL cJ ho 1 (vp_updL O 0 (iI s9).toInt64)]) ∨ (v = some (.int (iI 1)) ∧ N < -1 ∧ w1 = [oHash hx hd hch hb hh ht ha an, oDisk hd hc hk ko pg lg wt al dn, aN cI hc 65280 C, aN cI hk 255 K, oChange hch hd hj hi, oPage hb hbb, aN cI hbb 256 fb, oPage hh hhb, aN cI hhb 256 fh, oPage hj hjb, aN cI hjb 256 fj, oPage hi hib, aN cI hib 256 fi, oTape ht htb ((tp : Nat) : Int), aN cI htb 48 T, aN cI ha 32 An, aL cJ ho 1 (O)])) := by
  intro l hst9
  refine Lh_of hst9 (by decide) (Nat.le_of_ble_eq_true rfl) (fun x k hq kl => ?_)
  refine v_aload_n (n := 1) k dL_recover_0 rfl rfl ?_
  refine v_iconst (n := 2) k dL_recover_1 rfl ?_
  refine v_aload_n (n := 3) k dL_recover_2 rfl rfl ?_
  refine v_iload_n (n := 4) k dL_recover_3 rfl rfl ?_
  refine v_callX (n := 7) k kl [0, 1, 2, 3, 4, 5, 6, 7, 8, 9, 10, 11, 12, 13, 14, 15] 0 (z_X4_recover hN hD hks) miX4_recover ml_L_38 (by decide) (by decide) rfl (by decide) rfl rfl rfl rfl (Nat.le_of_ble_eq_true rfl) (by decide) dL_recover_4 rfl ?_ ?_
  · rintro E w1 ⟨rfl, hno, rfl⟩
    refine ⟨12, cat_recover_xIAE, fun q9 => ?_⟩
    dsimp only [wput, List.set, Option.toList, List.nil_append, List.cons_append]
    refine v_astore_n (n := 13) k dL_recover_12 rfl (by decide) rfl rfl ?_
    refine v_iconst (n := 14) k dL_recover_13 rfl ?_
    refine v_iretL k hq ?_ rfl dL_recover_14
    exact Or.inr ⟨rfl, hno, rfl⟩
  · rintro v w1 ⟨hok, a9, s9, ko9, fj9, fi9, hF9, rfl, hks9, hal9, rfl⟩
    dsimp only [wput, List.set, Option.toList, List.nil_append, List.cons_append]
    refine v_i2l (n := 8) k dL_recover_7 rfl ?_
    refine v_lastN (n := 9) k 16 2 (0) rfl rfl (by omega) (by omega) (by omega)  dL_recover_8 rfl ?_
    refine v_goto (t := 15) k dL_recover_9 (by decide) ?_
    refine v_iconst (n := 16) k dL_recover_15 rfl ?_
    refine v_iretL k hq ?_ rfl dL_recover_16
    exact Or.inl ⟨rfl, hok, a9, s9, ko9, fj9, fi9, hF9, hks9, hal9, rfl⟩
theorem mw_format : MIw yL_format cL_format 4 (some .int) [(0, 6, 9, 13)] 3 := ⟨TB_all (L := [Cond.codeWith yL_format cL_format 4 (some .int) [(0, 6, 9, 13)]]) (by decide +kernel) _ List.mem_cons_self, TB_all (L := [Cond.initialized RL]) (by decide +kernel) _ List.mem_cons_self, ⟨by decide, by decide⟩, by decide, sm_yL_format⟩
theorem mw_feed : MIw yL_feed cL_feed 8 (some .int) [(0, 13, 16, 13), (0, 13, 20, 19)] 5 := ⟨TB_all (L := [Cond.codeWith yL_feed cL_feed 8 (some .int) [(0, 13, 16, 13), (0, 13, 20, 19)]]) (by decide +kernel) _ List.mem_cons_self, TB_all (L := [Cond.initialized RL]) (by decide +kernel) _ List.mem_cons_self, ⟨by decide, by decide⟩, by decide, sm_yL_feed⟩
theorem mw_put : MIw yL_put cL_put 4 (some .int) [(0, 9, 12, 25), (0, 9, 15, 13)] 3 := ⟨TB_all (L := [Cond.codeWith yL_put cL_put 4 (some .int) [(0, 9, 12, 25), (0, 9, 15, 13)]]) (by decide +kernel) _ List.mem_cons_self, TB_all (L := [Cond.initialized RL]) (by decide +kernel) _ List.mem_cons_self, ⟨by decide, by decide⟩, by decide, sm_yL_put⟩
theorem mw_remove : MIw yL_remove cL_remove 3 (some .int) [(0, 8, 11, 25), (0, 8, 14, 13)] 2 := ⟨TB_all (L := [Cond.codeWith yL_remove cL_remove 3 (some .int) [(0, 8, 11, 25), (0, 8, 14, 13)]]) (by decide +kernel) _ List.mem_cons_self, TB_all (L := [Cond.initialized RL]) (by decide +kernel) _ List.mem_cons_self, ⟨by decide, by decide⟩, by decide, sm_yL_remove⟩
theorem mw_get : MIw yL_get cL_get 3 (some .int) [(0, 8, 11, 25)] 2 := ⟨TB_all (L := [Cond.codeWith yL_get cL_get 3 (some .int) [(0, 8, 11, 25)]]) (by decide +kernel) _ List.mem_cons_self, TB_all (L := [Cond.initialized RL]) (by decide +kernel) _ List.mem_cons_self, ⟨by decide, by decide⟩, by decide, sm_yL_get⟩
theorem mw_power : MIw yL_power cL_power 3 (some .int) [(0, 5, 8, 25), (0, 5, 11, 13)] 2 := ⟨TB_all (L := [Cond.codeWith yL_power cL_power 3 (some .int) [(0, 5, 8, 25), (0, 5, 11, 13)]]) (by decide +kernel) _ List.mem_cons_self, TB_all (L := [Cond.initialized RL]) (by decide +kernel) _ List.mem_cons_self, ⟨by decide, by decide⟩, by decide, sm_yL_power⟩
theorem mw_recover : MIw yL_recover cL_recover 4 (some .int) [(0, 9, 12, 13)] 3 := ⟨TB_all (L := [Cond.codeWith yL_recover cL_recover 4 (some .int) [(0, 9, 12, 13)]]) (by decide +kernel) _ List.mem_cons_self, TB_all (L := [Cond.initialized RL]) (by decide +kernel) _ List.mem_cons_self, ⟨by decide, by decide⟩, by decide, sm_yL_recover⟩
