theorem miX0_init : MI yX0_init cX0_init 2 none 1 := ⟨cd_yX0_init, in_X0, by decide, by decide, by decide⟩
theorem miX1_init : MI yX1_init cX1_init 1 none 0 := ⟨cd_yX1_init, in_X1, by decide, by decide, by decide⟩
theorem miX2_init : MI yX2_init cX2_init 1 none 0 := ⟨cd_yX2_init, in_X2, by decide, by decide, by decide⟩
theorem miX3_init : MI yX3_init cX3_init 1 none 0 := ⟨cd_yX3_init, in_X3, by decide, by decide, by decide⟩
theorem miX4_init : MI yX4_init cX4_init 1 none 0 := ⟨cd_yX4_init, in_X4, by decide, by decide, by decide⟩
theorem miX5_init : MI yX5_init cX5_init 1 none 0 := ⟨cd_yX5_init, in_X5, by decide, by decide, by decide⟩
set_option maxHeartbeats 1000000 in
set_option maxRecDepth 20000 in
theorem z_X1_init {D : va_G} {cI cB cJ cZ : ClassId} {hd : Nat} : ∀ l : Launch, Cn l yX1_init cX1_init 1 ({ frames := 8, cells := 2, slots := 65535, locals := 150 }) D (TY cI cB cJ cZ) [.ref hd] [(hd, .inr (1, [.null, .null, .int 0, .int 0, .int 0, .int 0, .int 0, .int 0]))] (fun w1 => ∃ hc hk, w1 = [oDisk hd hc hk 0 0 0 0 0 0, aN cI hc 65280 (fun _ => 0), aN cI hk 255 (fun _ => 0)]) 2 65535 := by
  intro l
  refine Cn_of (by decide) (Nat.le_of_ble_eq_true rfl) rfl (fun x k hq hin hA => ?_)
  refine v_aload_n (n := 1) k dX1_init_0 rfl rfl ?_
  refine v_objI (n := 4) k ml_X1_3 oi1 oi2 (by decide) (Nat.le_of_ble_eq_true rfl) dX1_init_1 rfl ?_
  refine v_aload_n (n := 5) k dX1_init_4 rfl rfl ?_
  refine v_ldc (n := 7) k co_X1_9 dX1_init_5 rfl ?_
  refine v_newa (n := 9) (N := 65280) k hA 0 rfl rfl prI ac_int (65280, .inl (fun _ => 0)) (fun _ => rfl) rfl (Nat.le_of_ble_eq_true rfl) (Nat.le_of_ble_eq_true rfl) ⟨Nat.le_of_ble_eq_true rfl, Nat.le_of_ble_eq_true rfl⟩ dX1_init_7 rfl (fun hc => ?_)
  dsimp only [List.set, List.cons_append, List.nil_append]
  refine v_putF (n := 12) k hin ciX1 0 0 (by decide) fl_X1_10 rfl rfl rfl (rfl) (rfl) (Nat.le_of_ble_eq_true rfl) dX1_init_9 rfl ?_
  refine v_aload_n (n := 13) k dX1_init_12 rfl rfl ?_
  refine v_sipush (n := 16) k dX1_init_13 (by decide) rfl ?_
  refine v_newa (n := 18) (N := 255) k hA 0 rfl rfl prI ac_int (255, .inl (fun _ => 0)) (fun _ => rfl) rfl (Nat.le_of_ble_eq_true rfl) (Nat.le_of_ble_eq_true rfl) ⟨Nat.le_of_ble_eq_true rfl, Nat.le_of_ble_eq_true rfl⟩ dX1_init_16 rfl (fun hk => ?_)
  dsimp only [List.set, List.cons_append, List.nil_append]
  refine v_putF (n := 21) k hin ciX1 0 1 (by decide) fl_X1_16 rfl rfl rfl (rfl) (rfl) (Nat.le_of_ble_eq_true rfl) dX1_init_18 rfl ?_
  refine v_vretC k hq ?_ dX1_init_21
  exact ⟨hc, hk, rfl⟩
set_option maxHeartbeats 1000000 in
set_option maxRecDepth 20000 in
theorem z_X2_init {D : va_G} {cI cB cJ cZ : ClassId} {h : Nat} : ∀ l : Launch, Cn l yX2_init cX2_init 1 ({ frames := 8, cells := 1, slots := 256, locals := 150 }) D (TY cI cB cJ cZ) [.ref h] [(h, .inr (2, [.null]))] (fun w1 => ∃ hb, w1 = [oPage h hb, aN cI hb 256 (fun _ => 0)]) 1 256 := by
  intro l
  refine Cn_of (by decide) (Nat.le_of_ble_eq_true rfl) rfl (fun x k hq hin hA => ?_)
  refine v_aload_n (n := 1) k dX2_init_0 rfl rfl ?_
  refine v_objI (n := 4) k ml_X2_3 oi1 oi2 (by decide) (Nat.le_of_ble_eq_true rfl) dX2_init_1 rfl ?_
  refine v_aload_n (n := 5) k dX2_init_4 rfl rfl ?_
  refine v_sipush (n := 8) k dX2_init_5 (by decide) rfl ?_
  refine v_newa (n := 10) (N := 256) k hA 0 rfl rfl prI ac_int (256, .inl (fun _ => 0)) (fun _ => rfl) rfl (Nat.le_of_ble_eq_true rfl) (Nat.le_of_ble_eq_true rfl) ⟨Nat.le_of_ble_eq_true rfl, Nat.le_of_ble_eq_true rfl⟩ dX2_init_8 rfl (fun hb => ?_)
  dsimp only [List.set, List.cons_append, List.nil_append]
  refine v_putF (n := 13) k hin ciX2 0 0 (by decide) fl_X2_9 rfl rfl rfl (rfl) (rfl) (Nat.le_of_ble_eq_true rfl) dX2_init_10 rfl ?_
  refine v_vretC k hq ?_ dX2_init_13
  exact ⟨hb, rfl⟩
set_option maxHeartbeats 1000000 in
set_option maxRecDepth 20000 in
theorem z_X3_init {D : va_G} {cI cB cJ cZ : ClassId} {h : Nat} : ∀ l : Launch, Cn l yX3_init cX3_init 1 ({ frames := 8, cells := 1, slots := 48, locals := 150 }) D (TY cI cB cJ cZ) [.ref h] [(h, .inr (3, [.null, .int 0]))] (fun w1 => ∃ hb, w1 = [oTape h hb 0, aN cI hb 48 (fun _ => 0)]) 1 48 := by
  intro l
  refine Cn_of (by decide) (Nat.le_of_ble_eq_true rfl) rfl (fun x k hq hin hA => ?_)
  refine v_aload_n (n := 1) k dX3_init_0 rfl rfl ?_
  refine v_objI (n := 4) k ml_X3_3 oi1 oi2 (by decide) (Nat.le_of_ble_eq_true rfl) dX3_init_1 rfl ?_
  refine v_aload_n (n := 5) k dX3_init_4 rfl rfl ?_
  refine v_bipush (n := 7) k dX3_init_5 (by decide) rfl ?_
  refine v_newa (n := 9) (N := 48) k hA 0 rfl rfl prI ac_int (48, .inl (fun _ => 0)) (fun _ => rfl) rfl (Nat.le_of_ble_eq_true rfl) (Nat.le_of_ble_eq_true rfl) ⟨Nat.le_of_ble_eq_true rfl, Nat.le_of_ble_eq_true rfl⟩ dX3_init_7 rfl (fun hb => ?_)
  dsimp only [List.set, List.cons_append, List.nil_append]
  refine v_putF (n := 12) k hin ciX3 0 0 (by decide) fl_X3_9 rfl rfl rfl (rfl) (rfl) (Nat.le_of_ble_eq_true rfl) dX3_init_9 rfl ?_
  refine v_aload_n (n := 13) k dX3_init_12 rfl rfl ?_
  refine v_iconst (n := 14) k dX3_init_13 rfl ?_
  refine v_put (n := 17) k ciX3 0 1 (by decide) fl_X3_15 rfl rfl (rfl) (rfl) (Nat.le_of_ble_eq_true rfl) dX3_init_14 rfl ?_
  refine v_vretC k hq ?_ dX3_init_17
  exact ⟨hb, rfl⟩
set_option maxHeartbeats 1000000 in
set_option maxRecDepth 20000 in
theorem z_X0_init {D : va_G} {cI cB cJ cZ : ClassId} {h hd : Nat} : ∀ l : Launch, Cn l yX0_init cX0_init 2 ({ frames := 9, cells := 4, slots := 514, locals := 170 }) D (TY cI cB cJ cZ) [.ref h, .ref hd] [(h, .inr (0, [.null, .null, .null]))] (fun w1 => ∃ hj hi hjb hib, w1 = [oChange h hd hj hi, oPage hj hjb, aN cI hjb 256 (fun _ => 0), oPage hi hib, aN cI hib 256 (fun _ => 0)]) 4 514 := by
  intro l
  refine Cn_of (by decide) (Nat.le_of_ble_eq_true rfl) rfl (fun x k hq hin hA => ?_)
  refine v_aload_n (n := 1) k dX0_init_0 rfl rfl ?_
  refine v_objI (n := 4) k ml_X0_3 oi1 oi2 (by decide) (Nat.le_of_ble_eq_true rfl) dX0_init_1 rfl ?_
  refine v_aload_n (n := 5) k dX0_init_4 rfl rfl ?_
  refine v_aload_n (n := 6) k dX0_init_5 rfl rfl ?_
  refine v_putF (n := 9) k hin ciX0 0 0 (by decide) fl_X0_9 rfl rfl rfl (rfl) (rfl) (Nat.le_of_ble_eq_true rfl) dX0_init_6 rfl ?_
  refine v_aload_n (n := 10) k dX0_init_9 rfl rfl ?_
  refine v_newo (n := 13) k hA ciX2 cl_X0_15 ia_X2 in_X2 [.null] (fun j hj => match j, hj with | 0, _ => rfl | (j + 1), h => absurd h (by omega)) (by decide) dX0_init_10 rfl (fun hj => ?_)
  refine v_dup (n := 14) k rfl dX0_init_13 rfl ?_
  refine v_callE (n := 17) k hA z_X2_init miX2_init im_yX2_init rfl ml_X0_17 (by decide) ⟨rfl, rfl⟩ rfl rfl (Nat.le_of_ble_eq_true rfl) (by decide) dX0_init_14 rfl ?_
  rintro _ ⟨hjb, rfl⟩
  dsimp only [List.set, List.cons_append, List.nil_append]
  refine v_putF (n := 20) k hin ciX0 0 1 (by decide) fl_X0_18 rfl rfl rfl (rfl) (rfl) (Nat.le_of_ble_eq_true rfl) dX0_init_17 rfl ?_
  refine v_aload_n (n := 21) k dX0_init_20 rfl rfl ?_
  refine v_newo (n := 24) k hA ciX2 cl_X0_15 ia_X2 in_X2 [.null] (fun j hj => match j, hj with | 0, _ => rfl | (j + 1), h => absurd h (by omega)) (by decide) dX0_init_21 rfl (fun hi => ?_)
  refine v_dup (n := 25) k rfl dX0_init_24 rfl ?_
  refine v_callE (n := 28) k hA z_X2_init miX2_init im_yX2_init rfl ml_X0_17 (by decide) ⟨rfl, rfl⟩ rfl rfl (Nat.le_of_ble_eq_true rfl) (by decide) dX0_init_25 rfl ?_
  rintro _ ⟨hib, rfl⟩
  dsimp only [List.set, List.cons_append, List.nil_append]
  refine v_putF (n := 31) k hin ciX0 0 2 (by decide) fl_X0_22 rfl rfl rfl (rfl) (rfl) (Nat.le_of_ble_eq_true rfl) dX0_init_28 rfl ?_
  refine v_vretC k hq ?_ dX0_init_31
  exact ⟨hj, hi, hjb, hib, rfl⟩
set_option maxHeartbeats 1000000 in
set_option maxRecDepth 20000 in
theorem z_X4_init {D : va_G} {cI cB cJ cZ : ClassId} {h : Nat} : ∀ l : Launch, Cn l yX4_init cX4_init 1 ({ frames := 10, cells := 15, slots := 66656, locals := 191 }) D (TY cI cB cJ cZ) [.ref h] [(h, .inr (4, [.null, .null, .null, .null, .null, .null, .int 0]))] (fun w1 => ∃ hd hc hk hch hj hi hjb hib hb hbb hh hhb ht htb ha, w1 = [oHash h hd hch hb hh ht ha 0, oDisk hd hc hk 1 64 8 0 (-1) 0, aN cI hc 65280 (fmC (fun _ => 0) 64 8), aN cI hk 255 (fun _ => 0), oChange hch hd hj hi, oPage hj hjb, aN cI hjb 256 (fun _ => 0), oPage hi hib, aN cI hib 256 (fun _ => 0), oPage hb hbb, aN cI hbb 256 (fun _ => 0), oPage hh hhb, aN cI hhb 256 (fun _ => 0), oTape ht htb 0, aN cI htb 48 (fun _ => 0), aN cI ha 32 (fun _ => 0)]) 15 66656 := by
  intro l
  refine Cn_of (by decide) (Nat.le_of_ble_eq_true rfl) rfl (fun x k hq hin hA => ?_)
  refine v_aload_n (n := 1) k dX4_init_0 rfl rfl ?_
  refine v_objI (n := 4) k ml_X4_1 oi1 oi2 (by decide) (Nat.le_of_ble_eq_true rfl) dX4_init_1 rfl ?_
  refine v_aload_n (n := 5) k dX4_init_4 rfl rfl ?_
  refine v_newo (n := 8) k hA ciX1 cl_X4_7 ia_X1 in_X1 [.null, .null, .int 0, .int 0, .int 0, .int 0, .int 0, .int 0] (fun j hj => match j, hj with | 0, _ => rfl | 1, _ => rfl | 2, _ => rfl | 3, _ => rfl | 4, _ => rfl | 5, _ => rfl | 6, _ => rfl | 7, _ => rfl | (j + 8), h => absurd h (by omega)) (by decide) dX4_init_5 rfl (fun hd => ?_)
  refine v_dup (n := 9) k rfl dX4_init_8 rfl ?_
  refine v_callE (n := 12) k hA z_X1_init miX1_init im_yX1_init rfl ml_X4_9 (by decide) ⟨rfl, rfl⟩ rfl rfl (Nat.le_of_ble_eq_true rfl) (by decide) dX4_init_9 rfl ?_
  rintro _ ⟨hc, hk, rfl⟩
  dsimp only [List.set, List.cons_append, List.nil_append]
  refine v_putF (n := 15) k hin ciX4 0 0 (by decide) fl_X4_10 rfl rfl rfl (rfl) (rfl) (Nat.le_of_ble_eq_true rfl) dX4_init_12 rfl ?_
  refine v_aload_n (n := 16) k dX4_init_15 rfl rfl ?_
  refine v_newo (n := 19) k hA ciX0 cl_X4_16 ia_X0 in_X0 [.null, .null, .null] (fun j hj => match j, hj with | 0, _ => rfl | 1, _ => rfl | 2, _ => rfl | (j + 3), h => absurd h (by omega)) (by decide) dX4_init_16 rfl (fun hch => ?_)
  refine v_dup (n := 20) k rfl dX4_init_19 rfl ?_
  refine v_aload_n (n := 21) k dX4_init_20 rfl rfl ?_
  refine v_get (n := 24) k ciX4 0 0 (by decide) fl_X4_10 rfl rfl dX4_init_21 rfl ?_
  refine v_callE (n := 27) k hA z_X0_init miX0_init im_yX0_init rfl ml_X4_18 (by decide) ⟨rfl, rfl⟩ rfl rfl (Nat.le_of_ble_eq_true rfl) (by decide) dX4_init_24 rfl ?_
  rintro _ ⟨hj, hi, hjb, hib, rfl⟩
  dsimp only [List.set, List.cons_append, List.nil_append]
  refine v_putF (n := 30) k hin ciX4 0 1 (by decide) fl_X4_21 rfl rfl rfl (rfl) (rfl) (Nat.le_of_ble_eq_true rfl) dX4_init_27 rfl ?_
  refine v_aload_n (n := 31) k dX4_init_30 rfl rfl ?_
  refine v_newo (n := 34) k hA ciX2 cl_X4_25 ia_X2 in_X2 [.null] (fun j hj => match j, hj with | 0, _ => rfl | (j + 1), h => absurd h (by omega)) (by decide) dX4_init_31 rfl (fun hb => ?_)
  refine v_dup (n := 35) k rfl dX4_init_34 rfl ?_
  refine v_callE (n := 38) k hA z_X2_init miX2_init im_yX2_init rfl ml_X4_27 (by decide) ⟨rfl, rfl⟩ rfl rfl (Nat.le_of_ble_eq_true rfl) (by decide) dX4_init_35 rfl ?_
  rintro _ ⟨hbb, rfl⟩
  dsimp only [List.set, List.cons_append, List.nil_append]
  refine v_putF (n := 41) k hin ciX4 0 2 (by decide) fl_X4_28 rfl rfl rfl (rfl) (rfl) (Nat.le_of_ble_eq_true rfl) dX4_init_38 rfl ?_
  refine v_aload_n (n := 42) k dX4_init_41 rfl rfl ?_
  refine v_newo (n := 45) k hA ciX2 cl_X4_25 ia_X2 in_X2 [.null] (fun j hj => match j, hj with | 0, _ => rfl | (j + 1), h => absurd h (by omega)) (by decide) dX4_init_42 rfl (fun hh => ?_)
  refine v_dup (n := 46) k rfl dX4_init_45 rfl ?_
  refine v_callE (n := 49) k hA z_X2_init miX2_init im_yX2_init rfl ml_X4_27 (by decide) ⟨rfl, rfl⟩ rfl rfl (Nat.le_of_ble_eq_true rfl) (by decide) dX4_init_46 rfl ?_
  rintro _ ⟨hhb, rfl⟩
  dsimp only [List.set, List.cons_append, List.nil_append]
  refine v_putF (n := 52) k hin ciX4 0 3 (by decide) fl_X4_32 rfl rfl rfl (rfl) (rfl) (Nat.le_of_ble_eq_true rfl) dX4_init_49 rfl ?_
  refine v_aload_n (n := 53) k dX4_init_52 rfl rfl ?_
  refine v_newo (n := 56) k hA ciX3 cl_X4_35 ia_X3 in_X3 [.null, .int 0] (fun j hj => match j, hj with | 0, _ => rfl | 1, _ => rfl | (j + 2), h => absurd h (by omega)) (by decide) dX4_init_53 rfl (fun ht => ?_)
  refine v_dup (n := 57) k rfl dX4_init_56 rfl ?_
  refine v_callE (n := 60) k hA z_X3_init miX3_init im_yX3_init rfl ml_X4_37 (by decide) ⟨rfl, rfl⟩ rfl rfl (Nat.le_of_ble_eq_true rfl) (by decide) dX4_init_57 rfl ?_
  rintro _ ⟨htb, rfl⟩
  dsimp only [List.set, List.cons_append, List.nil_append]
  refine v_putF (n := 63) k hin ciX4 0 4 (by decide) fl_X4_38 rfl rfl rfl (rfl) (rfl) (Nat.le_of_ble_eq_true rfl) dX4_init_60 rfl ?_
  refine v_aload_n (n := 64) k dX4_init_63 rfl rfl ?_
  refine v_bipush (n := 66) k dX4_init_64 (by decide) rfl ?_
  refine v_newa (n := 68) (N := 32) k hA 0 rfl rfl prI ac_int (32, .inl (fun _ => 0)) (fun _ => rfl) rfl (Nat.le_of_ble_eq_true rfl) (Nat.le_of_ble_eq_true rfl) ⟨Nat.le_of_ble_eq_true rfl, Nat.le_of_ble_eq_true rfl⟩ dX4_init_66 rfl (fun ha => ?_)
  dsimp only [List.set, List.cons_append, List.nil_append]
  refine v_putF (n := 71) k hin ciX4 0 5 (by decide) fl_X4_42 rfl rfl rfl (rfl) (rfl) (Nat.le_of_ble_eq_true rfl) dX4_init_68 rfl ?_
  refine v_aload_n (n := 72) k dX4_init_71 rfl rfl ?_
  refine v_iconst (n := 73) k dX4_init_72 rfl ?_
  refine v_put (n := 76) k ciX4 0 6 (by decide) fl_X4_46 rfl rfl (rfl) (rfl) (Nat.le_of_ble_eq_true rfl) dX4_init_73 rfl ?_
  refine v_aload_n (n := 77) k dX4_init_76 rfl rfl ?_
  refine v_get (n := 80) k ciX4 0 0 (by decide) fl_X4_10 rfl rfl dX4_init_77 rfl ?_
  refine v_bipush (n := 82) k dX4_init_80 (by decide) rfl ?_
  refine v_bipush (n := 84) k dX4_init_82 (by decide) rfl ?_
  refine v_aload_n (n := 85) k dX4_init_84 rfl rfl ?_
  refine v_get (n := 88) k ciX4 0 2 (by decide) fl_X4_28 rfl rfl dX4_init_85 rfl ?_
  refine v_upV (n := 91) k [1, 2, 9, 10] 1 (z_X1_wipe (n := 64) (g := 8) ⟨by omega, by omega⟩ ⟨by omega, by omega⟩ (by omega)) miX1_wipe ml_X4_50 (by decide) (by decide) rfl (by decide) rfl rfl rfl rfl (Nat.le_of_ble_eq_true rfl) (by rw [k.2.2.2.2.2.2.2.2]; exact ⟨Nat.le_of_ble_eq_true rfl, Nat.le_of_ble_eq_true rfl⟩) dX4_init_88 rfl ?_
  rintro _ _ ⟨rfl, rfl⟩
  dsimp only [wput, List.set, Option.toList, List.nil_append, List.cons_append]
  refine v_vretC k hq ?_ dX4_init_91
  exact ⟨hd, hc, hk, hch, hj, hi, hjb, hib, hb, hbb, hh, hhb, ht, htb, ha, rfl⟩
theorem GB0 : GB (fun _ => 0) (fun _ => 0) (fun _ => 0) (fun _ => 0) ((fun _ => 0), (fun _ => 0), (fun _ => 0), (fun _ => 0)) := ⟨fun _ => (by decide : 0 < 256), fun _ => (by decide : 0 < 256), fun _ => (by decide : 0 < 256), fun _ => (by decide : 0 ≤ 84), fun _ => ⟨(by decide : 0 ≤ 16), (by decide : 0 ≤ 32)⟩⟩
set_option maxHeartbeats 1000000 in
set_option maxRecDepth 20000 in
theorem z_X5_init {D : va_G} {cI cB cJ cZ : ClassId} {h : Nat} : ∀ l : Launch, Cn l yX5_init cX5_init 1 ({ frames := 8, cells := 15, slots := 382544, locals := 150 }) D (TY cI cB cJ cZ) [.ref h] [(h, .inr (5, [.int 0, .null, .int 0, .int 0, .int 0, .int 0, .int 0, .int 0, .int 0, .null, .null, .null, .null, .null, .null, .null, .null, .null, .null, .null, .int 0, .null, .int 0, .null, .null, .int 0]))] (fun w1 => ∃ (r : Nat → Nat) (Cm Dr En : Nat → Nat) (Ib : Nat → Bool) (Bd Mn : Nat → Nat) (q : RQ), AGP 64 Cm (fmC (fun _ => 0) 64 8) ∧ RM (fmC (fun _ => 0) 64 8) 8 Dr En Ib Bd Mn q ∧ w1 = [oM h r 0 64 8 0 (-1) 0 (fmC (fun _ => 0) 64 8 0) (pF (fmC (fun _ => 0) 64 8 0)) 0 0 0, aB cB (r 0) 65536 Cm, aN cI (r 1) 256 Dr, aN cI (r 2) 65536 En, aN cI (r 3) 65536 (fun _ => 0), aZ cZ (r 4) 256 Ib, aN cI (r 5) 256 Bd, aN cI (r 6) 256 Mn, aN cI (r 7) 23040 q.1, aN cI (r 8) 23040 q.2.1, aL cJ (r 9) 46080 q.2.2.1, aL cJ (r 10) 92160 q.2.2.2, aB cB (r 11) 48 (fun _ => 0), aB cB (r 12) 32 (fun _ => 0), aN cI (r 13) 256 (fun _ => 0), aN cI (r 14) 256 (fun _ => 0)]) 15 382544 := by
  intro l
  refine Cn_of (by decide) (Nat.le_of_ble_eq_true rfl) rfl (fun x k hq hin hA => ?_)
  refine v_aload_n (n := 1) k dX5_init_0 rfl rfl ?_
  refine v_objI (n := 4) k ml_X5_7 oi1 oi2 (by decide) (Nat.le_of_ble_eq_true rfl) dX5_init_1 rfl ?_
  refine v_aload_n (n := 5) k dX5_init_4 rfl rfl ?_
  refine v_ldc (n := 7) k co_X5_13 dX5_init_5 rfl ?_
  refine v_newa (n := 9) (N := 65536) k hA 1 rfl rfl prB ac_byte (65536, .inl (fun _ => 0)) (fun _ => rfl) rfl (Nat.le_of_ble_eq_true rfl) (Nat.le_of_ble_eq_true rfl) ⟨Nat.le_of_ble_eq_true rfl, Nat.le_of_ble_eq_true rfl⟩ dX5_init_7 rfl (fun r0 => ?_)
  dsimp only [List.set, List.cons_append, List.nil_append]
  refine v_putF (n := 12) k hin ciX5 0 1 (by decide) fl_X5_14 rfl rfl rfl (rfl) (rfl) (Nat.le_of_ble_eq_true rfl) dX5_init_9 rfl ?_
  refine v_aload_n (n := 13) k dX5_init_12 rfl rfl ?_
  refine v_sipush (n := 16) k dX5_init_13 (by decide) rfl ?_
  refine v_newa (n := 18) (N := 256) k hA 0 rfl rfl prI ac_int (256, .inl (fun _ => 0)) (fun _ => rfl) rfl (Nat.le_of_ble_eq_true rfl) (Nat.le_of_ble_eq_true rfl) ⟨Nat.le_of_ble_eq_true rfl, Nat.le_of_ble_eq_true rfl⟩ dX5_init_16 rfl (fun r1 => ?_)
  dsimp only [List.set, List.cons_append, List.nil_append]
  refine v_putF (n := 21) k hin ciX5 0 9 (by decide) fl_X5_18 rfl rfl rfl (rfl) (rfl) (Nat.le_of_ble_eq_true rfl) dX5_init_18 rfl ?_
  refine v_aload_n (n := 22) k dX5_init_21 rfl rfl ?_
  refine v_ldc (n := 24) k co_X5_13 dX5_init_22 rfl ?_
  refine v_newa (n := 26) (N := 65536) k hA 0 rfl rfl prI ac_int (65536, .inl (fun _ => 0)) (fun _ => rfl) rfl (Nat.le_of_ble_eq_true rfl) (Nat.le_of_ble_eq_true rfl) ⟨Nat.le_of_ble_eq_true rfl, Nat.le_of_ble_eq_true rfl⟩ dX5_init_24 rfl (fun r2 => ?_)
  dsimp only [List.set, List.cons_append, List.nil_append]
  refine v_putF (n := 29) k hin ciX5 0 10 (by decide) fl_X5_22 rfl rfl rfl (rfl) (rfl) (Nat.le_of_ble_eq_true rfl) dX5_init_26 rfl ?_
  refine v_aload_n (n := 30) k dX5_init_29 rfl rfl ?_
  refine v_ldc (n := 32) k co_X5_13 dX5_init_30 rfl ?_
  refine v_newa (n := 34) (N := 65536) k hA 0 rfl rfl prI ac_int (65536, .inl (fun _ => 0)) (fun _ => rfl) rfl (Nat.le_of_ble_eq_true rfl) (Nat.le_of_ble_eq_true rfl) ⟨Nat.le_of_ble_eq_true rfl, Nat.le_of_ble_eq_true rfl⟩ dX5_init_32 rfl (fun r3 => ?_)
  dsimp only [List.set, List.cons_append, List.nil_append]
  refine v_putF (n := 37) k hin ciX5 0 11 (by decide) fl_X5_25 rfl rfl rfl (rfl) (rfl) (Nat.le_of_ble_eq_true rfl) dX5_init_34 rfl ?_
  refine v_aload_n (n := 38) k dX5_init_37 rfl rfl ?_
  refine v_sipush (n := 41) k dX5_init_38 (by decide) rfl ?_
  refine v_newa (n := 43) (N := 256) k hA 3 rfl rfl prZ ac_boolean (256, .inl (fun _ => 0)) (fun _ => rfl) rfl (Nat.le_of_ble_eq_true rfl) (Nat.le_of_ble_eq_true rfl) ⟨Nat.le_of_ble_eq_true rfl, Nat.le_of_ble_eq_true rfl⟩ dX5_init_41 rfl (fun r4 => ?_)
  dsimp only [List.set, List.cons_append, List.nil_append]
  refine v_putF (n := 46) k hin ciX5 0 12 (by decide) fl_X5_28 rfl rfl rfl (rfl) (rfl) (Nat.le_of_ble_eq_true rfl) dX5_init_43 rfl ?_
  refine v_aload_n (n := 47) k dX5_init_46 rfl rfl ?_
  refine v_sipush (n := 50) k dX5_init_47 (by decide) rfl ?_
  refine v_newa (n := 52) (N := 256) k hA 0 rfl rfl prI ac_int (256, .inl (fun _ => 0)) (fun _ => rfl) rfl (Nat.le_of_ble_eq_true rfl) (Nat.le_of_ble_eq_true rfl) ⟨Nat.le_of_ble_eq_true rfl, Nat.le_of_ble_eq_true rfl⟩ dX5_init_50 rfl (fun r5 => ?_)
  dsimp only [List.set, List.cons_append, List.nil_append]
  refine v_putF (n := 55) k hin ciX5 0 13 (by decide) fl_X5_32 rfl rfl rfl (rfl) (rfl) (Nat.le_of_ble_eq_true rfl) dX5_init_52 rfl ?_
  refine v_aload_n (n := 56) k dX5_init_55 rfl rfl ?_
  refine v_sipush (n := 59) k dX5_init_56 (by decide) rfl ?_
  refine v_newa (n := 61) (N := 256) k hA 0 rfl rfl prI ac_int (256, .inl (fun _ => 0)) (fun _ => rfl) rfl (Nat.le_of_ble_eq_true rfl) (Nat.le_of_ble_eq_true rfl) ⟨Nat.le_of_ble_eq_true rfl, Nat.le_of_ble_eq_true rfl⟩ dX5_init_59 rfl (fun r6 => ?_)
  dsimp only [List.set, List.cons_append, List.nil_append]
  refine v_putF (n := 64) k hin ciX5 0 14 (by decide) fl_X5_35 rfl rfl rfl (rfl) (rfl) (Nat.le_of_ble_eq_true rfl) dX5_init_61 rfl ?_
  refine v_aload_n (n := 65) k dX5_init_64 rfl rfl ?_
  refine v_sipush (n := 68) k dX5_init_65 (by decide) rfl ?_
  refine v_newa (n := 70) (N := 23040) k hA 0 rfl rfl prI ac_int (23040, .inl (fun _ => 0)) (fun _ => rfl) rfl (Nat.le_of_ble_eq_true rfl) (Nat.le_of_ble_eq_true rfl) ⟨Nat.le_of_ble_eq_true rfl, Nat.le_of_ble_eq_true rfl⟩ dX5_init_68 rfl (fun r7 => ?_)
  dsimp only [List.set, List.cons_append, List.nil_append]
  refine v_putF (n := 73) k hin ciX5 0 15 (by decide) fl_X5_38 rfl rfl rfl (rfl) (rfl) (Nat.le_of_ble_eq_true rfl) dX5_init_70 rfl ?_
  refine v_aload_n (n := 74) k dX5_init_73 rfl rfl ?_
  refine v_sipush (n := 77) k dX5_init_74 (by decide) rfl ?_
  refine v_newa (n := 79) (N := 23040) k hA 0 rfl rfl prI ac_int (23040, .inl (fun _ => 0)) (fun _ => rfl) rfl (Nat.le_of_ble_eq_true rfl) (Nat.le_of_ble_eq_true rfl) ⟨Nat.le_of_ble_eq_true rfl, Nat.le_of_ble_eq_true rfl⟩ dX5_init_77 rfl (fun r8 => ?_)
  dsimp only [List.set, List.cons_append, List.nil_append]
  refine v_putF (n := 82) k hin ciX5 0 16 (by decide) fl_X5_41 rfl rfl rfl (rfl) (rfl) (Nat.le_of_ble_eq_true rfl) dX5_init_79 rfl ?_
  refine v_aload_n (n := 83) k dX5_init_82 rfl rfl ?_
  refine v_ldc (n := 85) k co_X5_44 dX5_init_83 rfl ?_
  refine v_newa (n := 87) (N := 46080) k hA 2 rfl rfl prJ ac_long (46080, .inr (.inl (fun _ => 0))) (fun _ => rfl) rfl (Nat.le_of_ble_eq_true rfl) (Nat.le_of_ble_eq_true rfl) ⟨Nat.le_of_ble_eq_true rfl, Nat.le_of_ble_eq_true rfl⟩ dX5_init_85 rfl (fun r9 => ?_)
  dsimp only [List.set, List.cons_append, List.nil_append]
  refine v_putF (n := 90) k hin ciX5 0 17 (by decide) fl_X5_45 rfl rfl rfl (rfl) (rfl) (Nat.le_of_ble_eq_true rfl) dX5_init_87 rfl ?_
  refine v_aload_n (n := 91) k dX5_init_90 rfl rfl ?_
  refine v_ldc (n := 93) k co_X5_49 dX5_init_91 rfl ?_
  refine v_newa (n := 95) (N := 92160) k hA 2 rfl rfl prJ ac_long (92160, .inr (.inl (fun _ => 0))) (fun _ => rfl) rfl (Nat.le_of_ble_eq_true rfl) (Nat.le_of_ble_eq_true rfl) ⟨Nat.le_of_ble_eq_true rfl, Nat.le_of_ble_eq_true rfl⟩ dX5_init_93 rfl (fun r10 => ?_)
  dsimp only [List.set, List.cons_append, List.nil_append]
  refine v_putF (n := 98) k hin ciX5 0 18 (by decide) fl_X5_50 rfl rfl rfl (rfl) (rfl) (Nat.le_of_ble_eq_true rfl) dX5_init_95 rfl ?_
  refine v_aload_n (n := 99) k dX5_init_98 rfl rfl ?_
  refine v_bipush (n := 101) k dX5_init_99 (by decide) rfl ?_
  refine v_newa (n := 103) (N := 48) k hA 1 rfl rfl prB ac_byte (48, .inl (fun _ => 0)) (fun _ => rfl) rfl (Nat.le_of_ble_eq_true rfl) (Nat.le_of_ble_eq_true rfl) ⟨Nat.le_of_ble_eq_true rfl, Nat.le_of_ble_eq_true rfl⟩ dX5_init_101 rfl (fun r11 => ?_)
  dsimp only [List.set, List.cons_append, List.nil_append]
  refine v_putF (n := 106) k hin ciX5 0 19 (by decide) fl_X5_53 rfl rfl rfl (rfl) (rfl) (Nat.le_of_ble_eq_true rfl) dX5_init_103 rfl ?_
  refine v_aload_n (n := 107) k dX5_init_106 rfl rfl ?_
  refine v_bipush (n := 109) k dX5_init_107 (by decide) rfl ?_
  refine v_newa (n := 111) (N := 32) k hA 1 rfl rfl prB ac_byte (32, .inl (fun _ => 0)) (fun _ => rfl) rfl (Nat.le_of_ble_eq_true rfl) (Nat.le_of_ble_eq_true rfl) ⟨Nat.le_of_ble_eq_true rfl, Nat.le_of_ble_eq_true rfl⟩ dX5_init_109 rfl (fun r12 => ?_)
  dsimp only [List.set, List.cons_append, List.nil_append]
  refine v_putF (n := 114) k hin ciX5 0 21 (by decide) fl_X5_56 rfl rfl rfl (rfl) (rfl) (Nat.le_of_ble_eq_true rfl) dX5_init_111 rfl ?_
  refine v_aload_n (n := 115) k dX5_init_114 rfl rfl ?_
  refine v_sipush (n := 118) k dX5_init_115 (by decide) rfl ?_
  refine v_newa (n := 120) (N := 256) k hA 0 rfl rfl prI ac_int (256, .inl (fun _ => 0)) (fun _ => rfl) rfl (Nat.le_of_ble_eq_true rfl) (Nat.le_of_ble_eq_true rfl) ⟨Nat.le_of_ble_eq_true rfl, Nat.le_of_ble_eq_true rfl⟩ dX5_init_118 rfl (fun r13 => ?_)
  dsimp only [List.set, List.cons_append, List.nil_append]
  refine v_putF (n := 123) k hin ciX5 0 23 (by decide) fl_X5_59 rfl rfl rfl (rfl) (rfl) (Nat.le_of_ble_eq_true rfl) dX5_init_120 rfl ?_
  refine v_aload_n (n := 124) k dX5_init_123 rfl rfl ?_
  refine v_sipush (n := 127) k dX5_init_124 (by decide) rfl ?_
  refine v_newa (n := 129) (N := 256) k hA 0 rfl rfl prI ac_int (256, .inl (fun _ => 0)) (fun _ => rfl) rfl (Nat.le_of_ble_eq_true rfl) (Nat.le_of_ble_eq_true rfl) ⟨Nat.le_of_ble_eq_true rfl, Nat.le_of_ble_eq_true rfl⟩ dX5_init_127 rfl (fun r14 => ?_)
  dsimp only [List.set, List.cons_append, List.nil_append]
  refine v_putF (n := 132) k hin ciX5 0 24 (by decide) fl_X5_62 rfl rfl rfl (rfl) (rfl) (Nat.le_of_ble_eq_true rfl) dX5_init_129 rfl ?_
  refine v_ws (ws' := [oM h (fun k => [r0, r1, r2, r3, r4, r5, r6, r7, r8, r9, r10, r11, r12, r13, r14].getD k 0) 0 0 0 0 0 0 0 0 0 0 0, aB cB  ((fun k => [r0, r1, r2, r3, r4, r5, r6, r7, r8, r9, r10, r11, r12, r13, r14].getD k 0) 0) 65536 (fun _ => 0), aN cI  ((fun k => [r0, r1, r2, r3, r4, r5, r6, r7, r8, r9, r10, r11, r12, r13, r14].getD k 0) 1) 256 (fun _ => 0), aN cI  ((fun k => [r0, r1, r2, r3, r4, r5, r6, r7, r8, r9, r10, r11, r12, r13, r14].getD k 0) 2) 65536 (fun _ => 0), aN cI  ((fun k => [r0, r1, r2, r3, r4, r5, r6, r7, r8, r9, r10, r11, r12, r13, r14].getD k 0) 3) 65536 (fun _ => 0), aZ cZ  ((fun k => [r0, r1, r2, r3, r4, r5, r6, r7, r8, r9, r10, r11, r12, r13, r14].getD k 0) 4) 256 (fun _ => false), aN cI  ((fun k => [r0, r1, r2, r3, r4, r5, r6, r7, r8, r9, r10, r11, r12, r13, r14].getD k 0) 5) 256 (fun _ => 0), aN cI  ((fun k => [r0, r1, r2, r3, r4, r5, r6, r7, r8, r9, r10, r11, r12, r13, r14].getD k 0) 6) 256 (fun _ => 0), aN cI  ((fun k => [r0, r1, r2, r3, r4, r5, r6, r7, r8, r9, r10, r11, r12, r13, r14].getD k 0) 7) 23040 (fun _ => 0), aN cI  ((fun k => [r0, r1, r2, r3, r4, r5, r6, r7, r8, r9, r10, r11, r12, r13, r14].getD k 0) 8) 23040 (fun _ => 0), aL cJ  ((fun k => [r0, r1, r2, r3, r4, r5, r6, r7, r8, r9, r10, r11, r12, r13, r14].getD k 0) 9) 46080 (fun _ => 0), aL cJ  ((fun k => [r0, r1, r2, r3, r4, r5, r6, r7, r8, r9, r10, r11, r12, r13, r14].getD k 0) 10) 92160 (fun _ => 0), aB cB  ((fun k => [r0, r1, r2, r3, r4, r5, r6, r7, r8, r9, r10, r11, r12, r13, r14].getD k 0) 11) 48 (fun _ => 0), aB cB  ((fun k => [r0, r1, r2, r3, r4, r5, r6, r7, r8, r9, r10, r11, r12, r13, r14].getD k 0) 12) 32 (fun _ => 0), aN cI  ((fun k => [r0, r1, r2, r3, r4, r5, r6, r7, r8, r9, r10, r11, r12, r13, r14].getD k 0) 13) 256 (fun _ => 0), aN cI  ((fun k => [r0, r1, r2, r3, r4, r5, r6, r7, r8, r9, r10, r11, r12, r13, r14].getD k 0) 14) 256 (fun _ => 0)]) (by rfl) ?_
  refine v_aload_n (n := 133) k dX5_init_132 rfl rfl ?_
  refine v_bipush (n := 135) k dX5_init_133 (by decide) rfl ?_
  refine v_bipush (n := 137) k dX5_init_135 (by decide) rfl ?_
  refine v_upV (n := 140) k [0, 1, 2, 3, 5, 6, 7, 8, 9, 10, 11] 0 (z_X5_anew (q := ((fun _ => 0), (fun _ => 0), (fun _ => 0), (fun _ => 0))) (C := fun _ => 0) (n := 64) (g := 8) rfl rfl (by omega) (by omega) (by omega) (by omega) (by omega) (fun _ => (by decide : 0 < 256)) GB0) miX5_anew ml_X5_65 (by decide) (by decide) rfl (by decide) rfl rfl rfl rfl (Nat.le_of_ble_eq_true rfl) (by rw [k.2.2.2.2.2.2.2.2]; exact ⟨Nat.le_of_ble_eq_true rfl, Nat.le_of_ble_eq_true rfl⟩) dX5_init_137 rfl ?_
  rintro _ _ ⟨rfl, Cm9, Dr9, En9, Ib9, Bd9, Mn9, q9, hA9, hRM9, rfl⟩
  dsimp only [wput, List.set, Option.toList, List.nil_append, List.cons_append]
  refine v_vretC k hq ?_ dX5_init_140
  exact ⟨_, Cm9, Dr9, En9, Ib9, Bd9, Mn9, q9, hA9, hRM9, rfl⟩
