/-- what put and remove of the reference leave -/
def PSU (cI cB cJ cZ : ClassId) (hm : Nat) (r : Nat → Nat) (th : Int) (pg lg an : Nat) (T : Nat → Nat) (F : Int × DA) : Option Value → va_W → Prop := fun v w1 => ∃ (a9 : DA) (s9 : Int) (Cm9 Dr9 En9 Ot9 : Nat → Nat) (Ib9 : Nat → Bool) (Bd9 Mn9 : Nat → Nat) (q9 : RQ) (Ou9 Cg9 : Nat → Nat) (ch9 : Nat), F = (s9, a9) ∧ v = some (.int (iI s9)) ∧ RI pg lg a9 Cm9 Dr9 En9 Ib9 Bd9 Mn9 q9 Cg9 ∧ w1 = [oM hm r th pg lg (a9).2.1 (a9).2.2.1 (a9).2.2.2 ((a9).1 0) (pF ((a9).1 0)) 0 an ch9, aB cB (r 0) 65536 (Cm9), aN cI (r 1) 256 (Dr9), aN cI (r 2) 65536 (En9), aN cI (r 3) 65536 (Ot9), aZ cZ (r 4) 256 (Ib9), aN cI (r 5) 256 (Bd9), aN cI (r 6) 256 (Mn9), aN cI (r 7) 23040 (q9).1, aN cI (r 8) 23040 (q9).2.1, aL cJ (r 9) 46080 (q9).2.2.1, aL cJ (r 10) 92160 (q9).2.2.2, aB cB (r 11) 48 T, aN cI (r 13) 256 (Ou9), aN cI (r 14) 256 (Cg9)]
theorem PSU_mk {cI cB cJ cZ : ClassId} {hm : Nat} {r : Nat → Nat} {th : Int} {pg lg an : Nat} {T : Nat → Nat} {F : Int × DA} {v : Option Value} {w1 : va_W} (h : ∃ (a9 : DA) (s9 : Int) (Cm9 Dr9 En9 Ot9 : Nat → Nat) (Ib9 : Nat → Bool) (Bd9 Mn9 : Nat → Nat) (q9 : RQ) (Ou9 Cg9 : Nat → Nat) (ch9 : Nat), F = (s9, a9) ∧ v = some (.int (iI s9)) ∧ RI pg lg a9 Cm9 Dr9 En9 Ib9 Bd9 Mn9 q9 Cg9 ∧ w1 = [oM hm r th pg lg (a9).2.1 (a9).2.2.1 (a9).2.2.2 ((a9).1 0) (pF ((a9).1 0)) 0 an ch9, aB cB (r 0) 65536 (Cm9), aN cI (r 1) 256 (Dr9), aN cI (r 2) 65536 (En9), aN cI (r 3) 65536 (Ot9), aZ cZ (r 4) 256 (Ib9), aN cI (r 5) 256 (Bd9), aN cI (r 6) 256 (Mn9), aN cI (r 7) 23040 (q9).1, aN cI (r 8) 23040 (q9).2.1, aL cJ (r 9) 46080 (q9).2.2.1, aL cJ (r 10) 92160 (q9).2.2.2, aB cB (r 11) 48 T, aN cI (r 13) 256 (Ou9), aN cI (r 14) 256 (Cg9)]) : PSU cI cB cJ cZ hm r th pg lg an T F v w1 := h
def puT (dn K : Int) (tp : Nat) : Int := if dn = 1 then 1 else if K < 1 ∨ 16 < K ∨ (tp : Int) < K ∨ 32 < (tp : Int) - K then 2 else 0
theorem dfM_no {C Dr : Nat → Nat} {n p : Nat} (h : ∀ k, k < n → Dr k = C (1 + k)) (hd : dirB C n p = false) : dfM Dr n p = none := find_range_n (fun k hk => beq_false_of_ne (by rw [h k hk]; exact dirB_no hd k hk))
theorem fdI_c {o : Option Nat} : (∃ r, o = some r ∧ fdI o = ((r : Nat) : Int)) ∨ (o = none ∧ fdI o = -1) := by
  cases o with
  | some z => exact Or.inl ⟨z, rfl, rfl⟩
  | none => exact Or.inr ⟨rfl, rfl⟩
theorem KPT.in {C : Nat → Nat} {wt al : Int} {pg lg : Nat} {s9 : Int} {a9 : DA} (h : KPT C wt al pg lg s9 a9) : in32 s9 ∧ s9 ≠ 0 := by
  rcases h with ⟨h, -⟩ | ⟨h | h | h, -⟩ <;> (rw [h]; exact ⟨⟨by decide, by decide⟩, by decide⟩)
set_option maxHeartbeats 1000000 in
set_option maxRecDepth 20000 in
theorem lp_X5_put_k {D : va_G} {cI cB cJ cZ : ClassId} {x : Kx} {hm : Nat} {r : Nat → Nat} {pg lg : Nat} {wt al : Int} {an ch : Nat} {T : Nat → Nat} {C : Nat → Nat} {Cm Dr En Ot : Nat → Nat} {Ib : Nat → Bool} {Bd Mn : Nat → Nat} {Ou Cg : Nat → Nat} {Ks Vs : Nat → Nat} {V K0 : Nat → Int64} {p u ks z : Nat} (k : Kf x cX5_put 8 yX5_put.cls (some .int) D (TY cI cB cJ cZ) ({ frames := 5, cells := 0, slots := 0, locals := 115 })) {A : Nat → Prop} (hT : ∀ j, T j < 256) (hu : u < 23040) (hks : ks ≤ 16) (hz : z ≤ 48) (hkz : ks ≤ z) (hz2 : z - ks ≤ 32) (hk9 : ∀ (J : Int) (K : Nat → Int64), KI K0 K (2 * u) 2 (T) ks → Vw x 8 A D true 0 0 [oM hm r 0 pg lg wt al 0 (C 0) (pF (C 0)) 0 an ch, aB cB (r 0) 65536 (Cm), aN cI (r 1) 256 (Dr), aN cI (r 2) 65536 (En), aN cI (r 3) 65536 (Ot), aZ cZ (r 4) 256 (Ib), aN cI (r 5) 256 (Bd), aN cI (r 6) 256 (Mn), aN cI (r 7) 23040 (Ks), aN cI (r 8) 23040 (Vs), aL cJ (r 9) 46080 (K), aL cJ (r 10) 92160 (V), aB cB (r 11) 48 T, aN cI (r 13) 256 (Ou), aN cI (r 14) 256 (Cg)] 321 [(0, .ref hm), (1, .int (iI ((ks : Nat) : Int))), (2, .int (iI ((z : Nat) : Int))), (4, .int (iI ((p : Nat) : Int))), (6, .int (iI ((u : Nat) : Int))), (7, .int (iI J))] []) : ∀ (m : Nat) (j : Nat) (J : Int) (K : Nat → Int64), ks < j + m → j ≤ ks → J = (j : Int) → KI K0 K (2 * u) 2 (T) j → Vw x 8 A D true 0 0 [oM hm r 0 pg lg wt al 0 (C 0) (pF (C 0)) 0 an ch, aB cB (r 0) 65536 (Cm), aN cI (r 1) 256 (Dr), aN cI (r 2) 65536 (En), aN cI (r 3) 65536 (Ot), aZ cZ (r 4) 256 (Ib), aN cI (r 5) 256 (Bd), aN cI (r 6) 256 (Mn), aN cI (r 7) 23040 (Ks), aN cI (r 8) 23040 (Vs), aL cJ (r 9) 46080 (K), aL cJ (r 10) 92160 (V), aB cB (r 11) 48 T, aN cI (r 13) 256 (Ou), aN cI (r 14) 256 (Cg)] 270 [(0, .ref hm), (1, .int (iI ((ks : Nat) : Int))), (2, .int (iI ((z : Nat) : Int))), (4, .int (iI ((p : Nat) : Int))), (6, .int (iI ((u : Nat) : Int))), (7, .int (iI J))] [] := by
  intro m
  induction m with
  | zero => intro j J K hm9 hj e1 hI; omega
  | succ m ih =>
    intro j J K hm9 hj e1 hI
    refine v_iload (n := 272) k dX5_put_270 rfl rfl ?_
    refine v_iload_n (n := 273) k dX5_put_272 rfl rfl ?_
    refine v_icmp_ge (n := 276) (t := 321) k (⟨by omega, by omega⟩) (⟨by omega, by omega⟩) dX5_put_273 (by decide) rfl (fun c_273 => ?_) (fun c_273 => ?_)
    · have e8 : j = ks := by omega
      exact hk9 _ _ (e8 ▸ hI)
    · refine v_aload_n (n := 277) k dX5_put_276 rfl rfl ?_
      refine v_get (n := 280) k ciX5 0 17 (by decide) fl_X5_45 rfl rfl dX5_put_277 rfl ?_
      refine v_iconst (n := 281) k dX5_put_280 rfl ?_
      refine v_iload (n := 283) k dX5_put_281 rfl rfl ?_
      refine v_imul (n := 284) k dX5_put_283 rfl ?_
      refine v_iload (n := 286) k dX5_put_284 rfl rfl ?_
      refine v_bipush (n := 288) k dX5_put_286 (by decide) rfl ?_
      refine v_idiv (n := 289) k (((j / 8 : Nat) : Int)) (ax_ne0 (by omega) (by omega)) (ax_div e1 rfl (by omega) (by omega) (by omega)) dX5_put_288 rfl ?_
      refine v_iadd (n := 290) k dX5_put_289 rfl ?_
      refine v_dup2 (n := 291) k rfl rfl dX5_put_290 rfl ?_
      refine v_laldN (n := 292) k 10 2 (2 * u + j / 8) rfl rfl (by omega) (by omega) (by omega) dX5_put_291 rfl ?_
      refine v_aload_n (n := 293) k dX5_put_292 rfl rfl ?_
      refine v_get (n := 296) k ciX5 0 19 (by decide) fl_X5_53 rfl rfl dX5_put_293 rfl ?_
      refine v_iload (n := 298) k dX5_put_296 rfl rfl ?_
      refine v_baldN (n := 299) k 12 1 (j) rfl rfl (by omega) (by omega) (by omega) dX5_put_298 rfl ?_
      refine v_i2l (n := 300) k dX5_put_299 rfl ?_
      refine v_ldc2 (n := 303) k cq_X5_194 dX5_put_300 rfl ?_
      refine v_land (n := 304) k dX5_put_303 rfl ?_
      rw [sbL _ (hT _)]
      refine v_bipush (n := 306) k dX5_put_304 (by decide) rfl ?_
      refine v_iload (n := 308) k dX5_put_306 rfl rfl ?_
      refine v_bipush (n := 310) k dX5_put_308 (by decide) rfl ?_
      refine v_irem (n := 311) k (((j % 8 : Nat) : Int)) (ax_ne0 (by omega) (by omega)) (ax_rem e1 rfl (by omega) (by omega) (by omega)) dX5_put_310 rfl ?_
      refine v_imul (n := 312) k dX5_put_311 rfl ?_
      refine v_lshl (n := 313) k dX5_put_312 rfl ?_
      refine v_lor (n := 314) k dX5_put_313 rfl ?_
      refine v_lastN (n := 315) k 10 2 (2 * u + j / 8) rfl rfl (by omega) (by omega) (by omega)  dX5_put_314 rfl ?_
      refine v_iinc (n := 318) k dX5_put_315 rfl (by decide) rfl rfl rfl ?_
      refine v_goto (t := 270) k dX5_put_318 (by decide) ?_
      exact ih (j + 1) _ _ (by omega) (by omega) (by omega) (hI.step (by omega) (hT _) rfl)
set_option maxHeartbeats 1000000 in
set_option maxRecDepth 20000 in
theorem lp_X5_put_v {D : va_G} {cI cB cJ cZ : ClassId} {x : Kx} {hm : Nat} {r : Nat → Nat} {pg lg : Nat} {wt al : Int} {an ch : Nat} {T : Nat → Nat} {C : Nat → Nat} {Cm Dr En Ot : Nat → Nat} {Ib : Nat → Bool} {Bd Mn : Nat → Nat} {Ou Cg : Nat → Nat} {Ks Vs : Nat → Nat} {K V0 : Nat → Int64} {p u ks z : Nat} (k : Kf x cX5_put 8 yX5_put.cls (some .int) D (TY cI cB cJ cZ) ({ frames := 5, cells := 0, slots := 0, locals := 115 })) {A : Nat → Prop} (hT : ∀ j, T j < 256) (hu : u < 23040) (hks : ks ≤ 16) (hz : z ≤ 48) (hkz : ks ≤ z) (hz2 : z - ks ≤ 32) (hk9 : ∀ (J : Int) (V : Nat → Int64), KI V0 V (4 * u) 4 (fun j => T (ks + j)) (z - ks) → Vw x 8 A D true 0 0 [oM hm r 0 pg lg wt al 0 (C 0) (pF (C 0)) 0 an ch, aB cB (r 0) 65536 (Cm), aN cI (r 1) 256 (Dr), aN cI (r 2) 65536 (En), aN cI (r 3) 65536 (Ot), aZ cZ (r 4) 256 (Ib), aN cI (r 5) 256 (Bd), aN cI (r 6) 256 (Mn), aN cI (r 7) 23040 (Ks), aN cI (r 8) 23040 (Vs), aL cJ (r 9) 46080 (K), aL cJ (r 10) 92160 (V), aB cB (r 11) 48 T, aN cI (r 13) 256 (Ou), aN cI (r 14) 256 (Cg)] 379 [(0, .ref hm), (1, .int (iI ((ks : Nat) : Int))), (2, .int (iI ((z : Nat) : Int))), (4, .int (iI ((p : Nat) : Int))), (6, .int (iI ((u : Nat) : Int))), (7, .int (iI J))] []) : ∀ (m : Nat) (j : Nat) (J : Int) (V : Nat → Int64), (z - ks) < j + m → j ≤ (z - ks) → J = (j : Int) → KI V0 V (4 * u) 4 (fun j => T (ks + j)) j → Vw x 8 A D true 0 0 [oM hm r 0 pg lg wt al 0 (C 0) (pF (C 0)) 0 an ch, aB cB (r 0) 65536 (Cm), aN cI (r 1) 256 (Dr), aN cI (r 2) 65536 (En), aN cI (r 3) 65536 (Ot), aZ cZ (r 4) 256 (Ib), aN cI (r 5) 256 (Bd), aN cI (r 6) 256 (Mn), aN cI (r 7) 23040 (Ks), aN cI (r 8) 23040 (Vs), aL cJ (r 9) 46080 (K), aL cJ (r 10) 92160 (V), aB cB (r 11) 48 T, aN cI (r 13) 256 (Ou), aN cI (r 14) 256 (Cg)] 324 [(0, .ref hm), (1, .int (iI ((ks : Nat) : Int))), (2, .int (iI ((z : Nat) : Int))), (4, .int (iI ((p : Nat) : Int))), (6, .int (iI ((u : Nat) : Int))), (7, .int (iI J))] [] := by
  intro m
  induction m with
  | zero => intro j J V hm9 hj e1 hI; omega
  | succ m ih =>
    intro j J V hm9 hj e1 hI
    refine v_iload (n := 326) k dX5_put_324 rfl rfl ?_
    refine v_iload_n (n := 327) k dX5_put_326 rfl rfl ?_
    refine v_iload_n (n := 328) k dX5_put_327 rfl rfl ?_
    refine v_isub (n := 329) k dX5_put_328 rfl ?_
    refine v_icmp_ge (n := 332) (t := 379) k (⟨by omega, by omega⟩) (⟨by omega, by omega⟩) dX5_put_329 (by decide) rfl (fun c_329 => ?_) (fun c_329 => ?_)
    · have e8 : j = (z - ks) := by omega
      exact hk9 _ _ (e8 ▸ hI)
    · refine v_aload_n (n := 333) k dX5_put_332 rfl rfl ?_
      refine v_get (n := 336) k ciX5 0 18 (by decide) fl_X5_50 rfl rfl dX5_put_333 rfl ?_
      refine v_iconst (n := 337) k dX5_put_336 rfl ?_
      refine v_iload (n := 339) k dX5_put_337 rfl rfl ?_
      refine v_imul (n := 340) k dX5_put_339 rfl ?_
      refine v_iload (n := 342) k dX5_put_340 rfl rfl ?_
      refine v_bipush (n := 344) k dX5_put_342 (by decide) rfl ?_
      refine v_idiv (n := 345) k (((j / 8 : Nat) : Int)) (ax_ne0 (by omega) (by omega)) (ax_div e1 rfl (by omega) (by omega) (by omega)) dX5_put_344 rfl ?_
      refine v_iadd (n := 346) k dX5_put_345 rfl ?_
      refine v_dup2 (n := 347) k rfl rfl dX5_put_346 rfl ?_
      refine v_laldN (n := 348) k 11 2 (4 * u + j / 8) rfl rfl (by omega) (by omega) (by omega) dX5_put_347 rfl ?_
      refine v_aload_n (n := 349) k dX5_put_348 rfl rfl ?_
      refine v_get (n := 352) k ciX5 0 19 (by decide) fl_X5_53 rfl rfl dX5_put_349 rfl ?_
      refine v_iload_n (n := 353) k dX5_put_352 rfl rfl ?_
      refine v_iload (n := 355) k dX5_put_353 rfl rfl ?_
      refine v_iadd (n := 356) k dX5_put_355 rfl ?_
      refine v_baldN (n := 357) k 12 1 (ks + j) rfl rfl (by omega) (by omega) (by omega) dX5_put_356 rfl ?_
      refine v_i2l (n := 358) k dX5_put_357 rfl ?_
      refine v_ldc2 (n := 361) k cq_X5_194 dX5_put_358 rfl ?_
      refine v_land (n := 362) k dX5_put_361 rfl ?_
      rw [sbL _ (hT _)]
      refine v_bipush (n := 364) k dX5_put_362 (by decide) rfl ?_
      refine v_iload (n := 366) k dX5_put_364 rfl rfl ?_
      refine v_bipush (n := 368) k dX5_put_366 (by decide) rfl ?_
      refine v_irem (n := 369) k (((j % 8 : Nat) : Int)) (ax_ne0 (by omega) (by omega)) (ax_rem e1 rfl (by omega) (by omega) (by omega)) dX5_put_368 rfl ?_
      refine v_imul (n := 370) k dX5_put_369 rfl ?_
      refine v_lshl (n := 371) k dX5_put_370 rfl ?_
      refine v_lor (n := 372) k dX5_put_371 rfl ?_
      refine v_lastN (n := 373) k 11 2 (4 * u + j / 8) rfl rfl (by omega) (by omega) (by omega)  dX5_put_372 rfl ?_
      refine v_iinc (n := 376) k dX5_put_373 rfl (by decide) rfl rfl rfl ?_
      refine v_goto (t := 324) k dX5_put_376 (by decide) ?_
      exact ih (j + 1) _ _ (by omega) (by omega) (by omega) (hI.step (by omega) (hT _) rfl)
set_option maxHeartbeats 1000000 in
set_option maxRecDepth 20000 in
theorem st_X5_put {D : va_G} {cI cB cJ cZ : ClassId} {x : Kx} {hm : Nat} {r : Nat → Nat} {pg lg : Nat} {wt al : Int} {an ch : Nat} {T : Nat → Nat} {C : Nat → Nat} {Cm Dr En Ot : Nat → Nat} {Ib : Nat → Bool} {Bd Mn : Nat → Nat} {q : RQ} {Ou Cg : Nat → Nat} {p i0 ks z : Nat} {Mn1 : Nat → Nat} {q1 : RQ} {F9 : Int × DA} (k : Kf x cX5_put 8 yX5_put.cls (some .int) D (TY cI cB cJ cZ) ({ frames := 5, cells := 0, slots := 0, locals := 115 })) (hq : isU x D [hm, r 0, r 1, r 2, r 3, r 4, r 5, r 6, r 7, r 8, r 9, r 10, r 11, r 13, r 14] (PSU cI cB cJ cZ hm r 0 pg lg an T F9)) (hF : FULL C pg lg) (hj : pb C 1 0 = 0) (hA : AGP pg Cm C) (hal : in32 al) (hGc : ∀ j, Cg j < 256) (hR : RM C lg Dr En Ib Bd Mn q) (hT : ∀ j, T j < 256) (hks1 : 1 ≤ ks) (hks : ks ≤ 16) (hz : z ≤ 48) (hkz : ks ≤ z) (hz2 : z - ks ≤ 32) (hi0 : i0 < 2 ^ C 0) (hp : p = entN C i0) (hpl : plc C p T ks z = true) (hB : BUT p Mn q Mn1 q1) (hrs : rcs q1 p (Mn1 p) = wL C p T ks) (hF9 : F9 = stC (sW (C, wt, al, 0) p (newB C p T ks z))) : ∀ (m : Nat) , 0 < m → Vw x 8 (fun q => q ∈ [hm, r 0, r 1, r 2, r 3, r 4, r 5, r 6, r 7, r 8, r 9, r 10, r 11, r 13, r 14]) D true 0 0 [oM hm r 0 pg lg wt al 0 (C 0) (pF (C 0)) 0 an ch, aB cB (r 0) 65536 (Cm), aN cI (r 1) 256 (Dr), aN cI (r 2) 65536 (En), aN cI (r 3) 65536 (Ot), aZ cZ (r 4) 256 (Ib), aN cI (r 5) 256 (Bd), aN cI (r 6) 256 (Mn1), aN cI (r 7) 23040 (q1).1, aN cI (r 8) 23040 (q1).2.1, aL cJ (r 9) 46080 (q1).2.2.1, aL cJ (r 10) 92160 (q1).2.2.2, aB cB (r 11) 48 T, aN cI (r 13) 256 (Ou), aN cI (r 14) 256 (Cg)] 167 [(0, .ref hm), (1, .int (iI ((ks : Nat) : Int))), (2, .int (iI ((z : Nat) : Int))), (4, .int (iI ((p : Nat) : Int)))] [] := by
  intro m
  induction m with
  | zero => intro hm9; omega
  | succ m ih =>
    intro hm9
    clear ih
    obtain ⟨w1, w2, w3, w4, w5, w6, w7⟩ := id hF.1.1
    have h14 := hF.1.2.2.2
    have h15 : 2 ^ C 0 ≤ 2 ^ 14 := Nat.pow_le_pow_right (by decide) h14
    have h15b : (2 : Nat) ^ 14 = 16384 := by decide
    have h16 : 0 < 2 ^ C 0 := Nat.pow_pos (by decide)
    have hpf := pF_le15 w4
    obtain ⟨p1, p2, p3, p4, p5⟩ := hF.2.1 _ hi0
    rw [← hp] at p1 p2 p3 p4 p5
    have hbd : Bd p = pb C p 0 := by rw [hp]; exact (hR.rb hF hi0).1
    have hpl2 : bL C p - less C p T ks + 2 + z ≤ 252 := of_decide_eq_true hpl
    have hwl : (wL C p T ks).flatten.length = bL C p - less C p T ks := but_len p4
    have hwe : wL C p T ks ++ [tapL T ks z] = recS C p (notAt C p (fndI C p T ks)) (pb C p 1) ++ [tapL T ks z] := rfl
    have htl : (tapL T ks z).length = 2 + z := by unfold tapL; rw [List.length_cons, List.length_cons, List.length_map, List.length_range]; omega
    have hml : Mn1 p ≤ pb C p 1 := by
      have h1 := congrArg List.length hrs
      rw [rcs_len] at h1
      rw [h1]
      exact recS_len _ _ _ _
    have hcn := p4.count
    have hw252 := p4.2.2
    refine v_bipush (n := 169) k dX5_put_167 (by decide) rfl ?_
    refine v_iload (n := 171) k dX5_put_169 rfl rfl ?_
    refine v_imul (n := 172) k dX5_put_171 rfl ?_
    refine v_aload_n (n := 173) k dX5_put_172 rfl rfl ?_
    refine v_get (n := 176) k ciX5 0 14 (by decide) fl_X5_35 rfl rfl dX5_put_173 rfl ?_
    refine v_iload (n := 178) k dX5_put_176 rfl rfl ?_
    refine v_ialdN (n := 179) k 7 0 (p) rfl rfl (by omega) (by omega) (by omega) dX5_put_178 rfl ?_
    refine v_iadd (n := 180) k dX5_put_179 rfl ?_
    rw [show (90 : Int) * ((p : Nat) : Int) + ((Mn1 p : Nat) : Int) = (((90 * p + Mn1 p) : Nat) : Int) by omega]
    refine v_istore (n := 182) k dX5_put_180 rfl (by decide) rfl rfl ?_
    refine v_aload_n (n := 183) k dX5_put_182 rfl rfl ?_
    refine v_get (n := 186) k ciX5 0 14 (by decide) fl_X5_35 rfl rfl dX5_put_183 rfl ?_
    refine v_iload (n := 188) k dX5_put_186 rfl rfl ?_
    refine v_dup2 (n := 189) k rfl rfl dX5_put_188 rfl ?_
    refine v_ialdN (n := 190) k 7 0 (p) rfl rfl (by omega) (by omega) (by omega) dX5_put_189 rfl ?_
    refine v_iconst (n := 191) k dX5_put_190 rfl ?_
    refine v_iadd (n := 192) k dX5_put_191 rfl ?_
    refine v_iastN (n := 193) k 7 0 (p) rfl rfl (by omega) (by omega) (by omega) (Mn1 p + 1) (by omega) dX5_put_192 rfl ?_
    refine v_aload_n (n := 194) k dX5_put_193 rfl rfl ?_
    refine v_get (n := 197) k ciX5 0 15 (by decide) fl_X5_38 rfl rfl dX5_put_194 rfl ?_
    refine v_iload (n := 199) k dX5_put_197 rfl rfl ?_
    refine v_iload_n (n := 200) k dX5_put_199 rfl rfl ?_
    refine v_iastN (n := 201) k 8 0 ((90 * p + Mn1 p)) rfl rfl (by omega) (by omega) (by omega) (ks) (rfl) dX5_put_200 rfl ?_
    refine v_aload_n (n := 202) k dX5_put_201 rfl rfl ?_
    refine v_get (n := 205) k ciX5 0 16 (by decide) fl_X5_41 rfl rfl dX5_put_202 rfl ?_
    refine v_iload (n := 207) k dX5_put_205 rfl rfl ?_
    refine v_iload_n (n := 208) k dX5_put_207 rfl rfl ?_
    refine v_iload_n (n := 209) k dX5_put_208 rfl rfl ?_
    refine v_isub (n := 210) k dX5_put_209 rfl ?_
    refine v_iastN (n := 211) k 9 0 ((90 * p + Mn1 p)) rfl rfl (by omega) (by omega) (by omega) (z - ks) (by omega) dX5_put_210 rfl ?_
    refine v_iconst (n := 212) k dX5_put_211 rfl ?_
    refine v_istore (n := 214) k dX5_put_212 rfl (by decide) rfl rfl ?_
    refine v_iload (n := 216) k dX5_put_214 rfl rfl ?_
    refine v_iconst (n := 217) k dX5_put_216 rfl ?_
    refine v_icmp_ge (n := 220) (t := 239) k (⟨by omega, by omega⟩) (⟨by omega, by omega⟩) dX5_put_217 (by decide) rfl (fun c_217 => ?_) (fun c_217 => ?_)
    · exfalso; omega
    · refine v_aload_n (n := 221) k dX5_put_220 rfl rfl ?_
      refine v_get (n := 224) k ciX5 0 17 (by decide) fl_X5_45 rfl rfl dX5_put_221 rfl ?_
      refine v_iconst (n := 225) k dX5_put_224 rfl ?_
      refine v_iload (n := 227) k dX5_put_225 rfl rfl ?_
      refine v_imul (n := 228) k dX5_put_227 rfl ?_
      refine v_iload (n := 230) k dX5_put_228 rfl rfl ?_
      refine v_iadd (n := 231) k dX5_put_230 rfl ?_
      refine v_lconst (n := 232) k 0 rfl dX5_put_231 rfl ?_
      refine v_lastN (n := 233) k 10 2 (2 * (90 * p + Mn1 p) + 0) rfl rfl (by omega) (by omega) (by omega)  dX5_put_232 rfl ?_
      refine v_iinc (n := 236) k dX5_put_233 rfl (by decide) rfl rfl rfl ?_
      refine v_goto (t := 214) k dX5_put_236 (by decide) ?_
      refine v_iload (n := 216) k dX5_put_214 rfl rfl ?_
      refine v_iconst (n := 217) k dX5_put_216 rfl ?_
      refine v_icmp_ge (n := 220) (t := 239) k (⟨by omega, by omega⟩) (⟨by omega, by omega⟩) dX5_put_217 (by decide) rfl (fun c_217 => ?_) (fun c_217 => ?_)
      · exfalso; omega
      · refine v_aload_n (n := 221) k dX5_put_220 rfl rfl ?_
        refine v_get (n := 224) k ciX5 0 17 (by decide) fl_X5_45 rfl rfl dX5_put_221 rfl ?_
        refine v_iconst (n := 225) k dX5_put_224 rfl ?_
        refine v_iload (n := 227) k dX5_put_225 rfl rfl ?_
        refine v_imul (n := 228) k dX5_put_227 rfl ?_
        refine v_iload (n := 230) k dX5_put_228 rfl rfl ?_
        refine v_iadd (n := 231) k dX5_put_230 rfl ?_
        refine v_lconst (n := 232) k 0 rfl dX5_put_231 rfl ?_
        refine v_lastN (n := 233) k 10 2 (2 * (90 * p + Mn1 p) + 1) rfl rfl (by omega) (by omega) (by omega)  dX5_put_232 rfl ?_
        refine v_iinc (n := 236) k dX5_put_233 rfl (by decide) rfl rfl rfl ?_
        refine v_goto (t := 214) k dX5_put_236 (by decide) ?_
        refine v_iload (n := 216) k dX5_put_214 rfl rfl ?_
        refine v_iconst (n := 217) k dX5_put_216 rfl ?_
        refine v_icmp_ge (n := 220) (t := 239) k (⟨by omega, by omega⟩) (⟨by omega, by omega⟩) dX5_put_217 (by decide) rfl (fun c_217 => ?_) (fun c_217 => ?_)
        · refine v_iconst (n := 240) k dX5_put_239 rfl ?_
          refine v_istore (n := 242) k dX5_put_240 rfl (by decide) rfl rfl ?_
          refine v_iload (n := 244) k dX5_put_242 rfl rfl ?_
          refine v_iconst (n := 245) k dX5_put_244 rfl ?_
          refine v_icmp_ge (n := 248) (t := 267) k (⟨by omega, by omega⟩) (⟨by omega, by omega⟩) dX5_put_245 (by decide) rfl (fun c_245 => ?_) (fun c_245 => ?_)
          · exfalso; omega
          · refine v_aload_n (n := 249) k dX5_put_248 rfl rfl ?_
            refine v_get (n := 252) k ciX5 0 18 (by decide) fl_X5_50 rfl rfl dX5_put_249 rfl ?_
            refine v_iconst (n := 253) k dX5_put_252 rfl ?_
            refine v_iload (n := 255) k dX5_put_253 rfl rfl ?_
            refine v_imul (n := 256) k dX5_put_255 rfl ?_
            refine v_iload (n := 258) k dX5_put_256 rfl rfl ?_
            refine v_iadd (n := 259) k dX5_put_258 rfl ?_
            refine v_lconst (n := 260) k 0 rfl dX5_put_259 rfl ?_
            refine v_lastN (n := 261) k 11 2 (4 * (90 * p + Mn1 p) + 0) rfl rfl (by omega) (by omega) (by omega)  dX5_put_260 rfl ?_
            refine v_iinc (n := 264) k dX5_put_261 rfl (by decide) rfl rfl rfl ?_
            refine v_goto (t := 242) k dX5_put_264 (by decide) ?_
            refine v_iload (n := 244) k dX5_put_242 rfl rfl ?_
            refine v_iconst (n := 245) k dX5_put_244 rfl ?_
            refine v_icmp_ge (n := 248) (t := 267) k (⟨by omega, by omega⟩) (⟨by omega, by omega⟩) dX5_put_245 (by decide) rfl (fun c_245 => ?_) (fun c_245 => ?_)
            · exfalso; omega
            · refine v_aload_n (n := 249) k dX5_put_248 rfl rfl ?_
              refine v_get (n := 252) k ciX5 0 18 (by decide) fl_X5_50 rfl rfl dX5_put_249 rfl ?_
              refine v_iconst (n := 253) k dX5_put_252 rfl ?_
              refine v_iload (n := 255) k dX5_put_253 rfl rfl ?_
              refine v_imul (n := 256) k dX5_put_255 rfl ?_
              refine v_iload (n := 258) k dX5_put_256 rfl rfl ?_
              refine v_iadd (n := 259) k dX5_put_258 rfl ?_
              refine v_lconst (n := 260) k 0 rfl dX5_put_259 rfl ?_
              refine v_lastN (n := 261) k 11 2 (4 * (90 * p + Mn1 p) + 1) rfl rfl (by omega) (by omega) (by omega)  dX5_put_260 rfl ?_
              refine v_iinc (n := 264) k dX5_put_261 rfl (by decide) rfl rfl rfl ?_
              refine v_goto (t := 242) k dX5_put_264 (by decide) ?_
              refine v_iload (n := 244) k dX5_put_242 rfl rfl ?_
              refine v_iconst (n := 245) k dX5_put_244 rfl ?_
              refine v_icmp_ge (n := 248) (t := 267) k (⟨by omega, by omega⟩) (⟨by omega, by omega⟩) dX5_put_245 (by decide) rfl (fun c_245 => ?_) (fun c_245 => ?_)
              · exfalso; omega
              · refine v_aload_n (n := 249) k dX5_put_248 rfl rfl ?_
                refine v_get (n := 252) k ciX5 0 18 (by decide) fl_X5_50 rfl rfl dX5_put_249 rfl ?_
                refine v_iconst (n := 253) k dX5_put_252 rfl ?_
                refine v_iload (n := 255) k dX5_put_253 rfl rfl ?_
                refine v_imul (n := 256) k dX5_put_255 rfl ?_
                refine v_iload (n := 258) k dX5_put_256 rfl rfl ?_
                refine v_iadd (n := 259) k dX5_put_258 rfl ?_
                refine v_lconst (n := 260) k 0 rfl dX5_put_259 rfl ?_
                refine v_lastN (n := 261) k 11 2 (4 * (90 * p + Mn1 p) + 2) rfl rfl (by omega) (by omega) (by omega)  dX5_put_260 rfl ?_
                refine v_iinc (n := 264) k dX5_put_261 rfl (by decide) rfl rfl rfl ?_
                refine v_goto (t := 242) k dX5_put_264 (by decide) ?_
                refine v_iload (n := 244) k dX5_put_242 rfl rfl ?_
                refine v_iconst (n := 245) k dX5_put_244 rfl ?_
                refine v_icmp_ge (n := 248) (t := 267) k (⟨by omega, by omega⟩) (⟨by omega, by omega⟩) dX5_put_245 (by decide) rfl (fun c_245 => ?_) (fun c_245 => ?_)
                · exfalso; omega
                · refine v_aload_n (n := 249) k dX5_put_248 rfl rfl ?_
                  refine v_get (n := 252) k ciX5 0 18 (by decide) fl_X5_50 rfl rfl dX5_put_249 rfl ?_
                  refine v_iconst (n := 253) k dX5_put_252 rfl ?_
                  refine v_iload (n := 255) k dX5_put_253 rfl rfl ?_
                  refine v_imul (n := 256) k dX5_put_255 rfl ?_
                  refine v_iload (n := 258) k dX5_put_256 rfl rfl ?_
                  refine v_iadd (n := 259) k dX5_put_258 rfl ?_
                  refine v_lconst (n := 260) k 0 rfl dX5_put_259 rfl ?_
                  refine v_lastN (n := 261) k 11 2 (4 * (90 * p + Mn1 p) + 3) rfl rfl (by omega) (by omega) (by omega)  dX5_put_260 rfl ?_
                  refine v_iinc (n := 264) k dX5_put_261 rfl (by decide) rfl rfl rfl ?_
                  refine v_goto (t := 242) k dX5_put_264 (by decide) ?_
                  refine v_iload (n := 244) k dX5_put_242 rfl rfl ?_
                  refine v_iconst (n := 245) k dX5_put_244 rfl ?_
                  refine v_icmp_ge (n := 248) (t := 267) k (⟨by omega, by omega⟩) (⟨by omega, by omega⟩) dX5_put_245 (by decide) rfl (fun c_245 => ?_) (fun c_245 => ?_)
                  · refine v_iconst (n := 268) k dX5_put_267 rfl ?_
                    refine v_istore (n := 270) k dX5_put_268 rfl (by decide) rfl rfl ?_
                    refine lp_X5_put_k (p := p) (u := (90 * p + Mn1 p)) (ks := ks) (z := z) (K0 := q1.2.2.1) k hT (by omega) hks hz hkz hz2 (fun J9 K9 hK9 => ?_) (ks + 1) 0 _ _ (by omega) (by omega) rfl (KI.z2 _ _ _)
                    refine v_iconst (n := 322) k dX5_put_321 rfl ?_
                    refine v_istore (n := 324) k dX5_put_322 rfl (by decide) rfl rfl ?_
                    refine lp_X5_put_v (p := p) (u := (90 * p + Mn1 p)) (ks := ks) (z := z) (V0 := q1.2.2.2) k hT (by omega) hks hz hkz hz2 (fun J8 V9 hV9 => ?_) (z - ks + 1) 0 _ _ (by omega) (by omega) rfl (KI.z4 _ _ _)
                    have hrs2 : rcs (upN q1.1 (90 * p + Mn1 p) ks, upN q1.2.1 (90 * p + Mn1 p) (z - ks), K9, V9) p ((upN Mn1 p (Mn1 p + 1)) p) = wL C p T ks ++ [tapL T ks z] := by
                      have e1 : (upN Mn1 p (Mn1 p + 1)) p = Mn1 p + 1 := if_pos rfl
                      rw [e1, rcs_s, rcB_tape hK9 hV9 hks hz2 hkz, ← hrs]
                      congr 1
                      exact rcs_ext (fun r hr => rcB_keep hB.1 hK9 hV9 (by omega))
                    have hB2 : BUT p Mn q (upN Mn1 p (Mn1 p + 1)) (upN q1.1 (90 * p + Mn1 p) ks, upN q1.2.1 (90 * p + Mn1 p) (z - ks), K9, V9) := by
                      refine ⟨fun y => ?_, fun j hj9 => by rw [upN_at, if_neg hj9]; exact hB.2.1 j hj9, fun j r hj9 hr => ?_⟩
                      · show upN q1.1 _ _ y ≤ 16 ∧ upN q1.2.1 _ _ y ≤ 32
                        rw [upN_at, upN_at]
                        split
                        · exact ⟨hks, hz2⟩
                        · exact hB.1 y
                      · rw [rcB_keep hB.1 hK9 hV9 (by omega)]
                        exact hB.2.2 j r hj9 hr
                    have hbk : bkM Bd (upN Mn1 p (Mn1 p + 1)) (upN q1.1 (90 * p + Mn1 p) ks, upN q1.2.1 (90 * p + Mn1 p) (z - ks), K9, V9) p = newB C p T ks z := by
                      unfold bkM newB
                      rw [hrs2, hbd]
                      rfl
                    have hv9 : ∀ r ∈ rcs (upN q1.1 (90 * p + Mn1 p) ks, upN q1.2.1 (90 * p + Mn1 p) (z - ks), K9, V9) p ((upN Mn1 p (Mn1 p + 1)) p), VR r := by
                      rw [hrs2]
                      intro r hr
                      rcases List.mem_append.mp hr with h9 | h9
                      · exact VR_recS p4 (Nat.le_refl _) r h9
                      · rw [List.mem_singleton.mp h9]
                        exact VR_tapL hks1 hks hkz hz2
                    have hl9 : (rcs (upN q1.1 (90 * p + Mn1 p) ks, upN q1.2.1 (90 * p + Mn1 p) (z - ks), K9, V9) p ((upN Mn1 p (Mn1 p + 1)) p)).flatten.length ≤ 252 := by
                      rw [hrs2, List.flatten_append, List.length_append]
                      show (wL C p T ks).flatten.length + (tapL T ks z ++ []).length ≤ 252
                      rw [List.append_nil, hwl, htl]
                      omega
                    have hm9 : ∀ j, (upN Mn1 p (Mn1 p + 1)) j ≤ 84 := by
                      intro j
                      by_cases r : j = p
                      · have h3 := len3 hv9
                        rw [rcs_len] at h3
                        rw [r]
                        omega
                      · rw [upN_at, if_neg r, hB.2.1 j r]
                        exact hR.2.2.2.2.2.2.2.1 j
                    have hb9 : ∀ j, bkM Bd (upN Mn1 p (Mn1 p + 1)) (upN q1.1 (90 * p + Mn1 p) ks, upN q1.2.1 (90 * p + Mn1 p) (z - ks), K9, V9) p j < 256 := by
                      have h3 := len3 hv9
                      rw [hbk]
                      refine bpg_lt (by omega) (by rw [← hwe, ← hrs2]; omega) (by rw [← hwe, ← hrs2]; omega) (fun r hr y hy => ?_)
                      rcases List.mem_append.mp hr with h9 | h9
                      · exact recS_lt w3 r h9 y hy
                      · rw [List.mem_singleton.mp h9] at hy
                        unfold tapL at hy
                        rcases List.mem_cons.mp hy with h8 | h8
                        · omega
                        · rcases List.mem_cons.mp h8 with h8 | h8
                          · omega
                          · obtain ⟨j, -, rfl⟩ := List.mem_map.mp h8
                            exact hT j
                    obtain ⟨hF2, hR2⟩ := wr_rm hF hi0 hp hR hB2 hv9 hl9 hb9 hm9
                    have hG2 : GB Dr En Bd (upN Mn1 p (Mn1 p + 1)) (upN q1.1 (90 * p + Mn1 p) ks, upN q1.2.1 (90 * p + Mn1 p) (z - ks), K9, V9) := hR2.2.2.2.2
                    have hbt9 : btM (upN q1.1 (90 * p + Mn1 p) ks, upN q1.2.1 (90 * p + Mn1 p) (z - ks), K9, V9) p ((upN Mn1 p (Mn1 p + 1)) p) ≤ 252 := by rw [← rcs_fl]; exact hl9
                    refine v_ws (ws' := [oM hm r 0 pg lg wt al 0 (C 0) (pF (C 0)) 0 an ch, aB cB (r 0) 65536 (Cm), aN cI (r 1) 256 (Dr), aN cI (r 2) 65536 (En), aN cI (r 3) 65536 (Ot), aZ cZ (r 4) 256 (Ib), aN cI (r 5) 256 (Bd), aN cI (r 6) 256 (upN Mn1 p (Mn1 p + 1)), aN cI (r 7) 23040 ((upN q1.1 (90 * p + Mn1 p) ks, upN q1.2.1 (90 * p + Mn1 p) (z - ks), K9, V9)).1, aN cI (r 8) 23040 ((upN q1.1 (90 * p + Mn1 p) ks, upN q1.2.1 (90 * p + Mn1 p) (z - ks), K9, V9)).2.1, aL cJ (r 9) 46080 ((upN q1.1 (90 * p + Mn1 p) ks, upN q1.2.1 (90 * p + Mn1 p) (z - ks), K9, V9)).2.2.1, aL cJ (r 10) 92160 ((upN q1.1 (90 * p + Mn1 p) ks, upN q1.2.1 (90 * p + Mn1 p) (z - ks), K9, V9)).2.2.2, aB cB (r 11) 48 T, aN cI (r 13) 256 (Ou), aN cI (r 14) 256 (Cg)]) (by rfl) ?_
                    refine v_aload_n (n := 380) k dX5_put_379 rfl rfl ?_
                    refine v_iload (n := 382) k dX5_put_380 rfl rfl ?_
                    refine v_upV (n := 385) k [0, 1, 2, 3, 5, 6, 7, 8, 9, 10, 11, 13] 0 (z_X5_wroteBucket (p := p) (C := C) rfl (by omega) (by omega) (by omega) (by omega) hG2 (dfM_no hR.1 p3) hbt9 (fun j _ => hb9 j) hA hal (fun a9 h9 => by
  rcases wr_run hF hj hF2 (by omega) h9 with ⟨-, -, h1⟩ | ⟨h1, -⟩
  · rw [h1]
    have e9 : wrp C p (bkM Bd (upN Mn1 p (Mn1 p + 1)) (upN q1.1 (90 * p + Mn1 p) ks, upN q1.2.1 (90 * p + Mn1 p) (z - ks), K9, V9) p) 0 = C 0 := by
      have := wrp_out (C := C) (f := bkM Bd (upN Mn1 p (Mn1 p + 1)) (upN q1.1 (90 * p + Mn1 p) ks, upN q1.2.1 (90 * p + Mn1 p) (z - ks), K9, V9) p) (p := p) (q := 0) (i := 0) (by decide) (by omega)
      rw [pb0, pb0] at this
      exact this
    rw [e9]
    exact ⟨rfl, rfl, hR2⟩
  · cases h1) (fun a9 h9 => by
  rcases wr_run hF hj hF2 (by omega) h9 with ⟨h1, -⟩ | ⟨-, h1, -⟩
  · cases h1
  · exact h1.2.2.2.ok h1.1)) miX5_wroteBucket ml_X5_196 (by decide) (by decide) rfl (by decide) rfl rfl rfl rfl (Nat.le_of_ble_eq_true rfl) ⟨Nat.zero_le _, Nat.zero_le _⟩ dX5_put_382 rfl ?_
                    rintro _ _ ⟨a9, s9, Cm9, Ou9, Dr9, En9, Ib9, Bd9, Mn9, q9, hst, rfl, hA9, hal9, hRM9, rfl⟩
                    dsimp only [wput, List.set, Option.toList, List.nil_append, List.cons_append]
                    refine v_iretU k hq ?_ rfl dX5_put_385
                    rw [hbk] at hst
                    refine PSU_mk ⟨a9, s9, Cm9, Dr9, En9, _, Ib9, Bd9, Mn9, q9, Ou9, _, _, hF9.trans hst, rfl, ⟨hA9, hal9, hRM9, hGc⟩, rfl⟩
                  · exfalso; omega
        · exfalso; omega
set_option maxHeartbeats 1000000 in
set_option maxRecDepth 20000 in
theorem lp_X5_put {D : va_G} {cI cB cJ cZ : ClassId} {x : Kx} {hm : Nat} {r : Nat → Nat} {pg lg : Nat} {an : Nat} {T : Nat → Nat} {ks z : Nat} {a0 : DA} (k : Kf x cX5_put 8 yX5_put.cls (some .int) D (TY cI cB cJ cZ) ({ frames := 5, cells := 0, slots := 0, locals := 115 })) (hq : isU x D [hm, r 0, r 1, r 2, r 3, r 4, r 5, r 6, r 7, r 8, r 9, r 10, r 11, r 13, r 14] (PSU cI cB cJ cZ hm r 0 pg lg an T (pfF pg lg T ks z a0))) (hT : ∀ j, T j < 256) (hks1 : 1 ≤ ks) (hks : ks ≤ 16) (hz : z ≤ 48) (hkz : ks ≤ z) (hz2 : z - ks ≤ 32) : ∀ (m : Nat) (C : Nat → Nat) (wt al : Int) (Cm Dr En Ot : Nat → Nat) (Ib : Nat → Bool) (Bd Mn : Nat → Nat) (q : RQ) (Ou Cg : Nat → Nat) (ch : Nat), C 0 ≤ 14 → pb C (entN C (idx C (hsh T 0 ks))) 0 ≤ 14 → 29 ≤ m + C 0 + pb C (entN C (idx C (hsh T 0 ks))) 0 → FULL C pg lg → pb C 1 0 = 0 → RI pg lg (C, wt, al, 0) Cm Dr En Ib Bd Mn q Cg → sMP pg lg (hsh T 0 ks) T ks z 64 a0 = sMP pg lg (hsh T 0 ks) T ks z m (C, wt, al, 0) → Vw x 8 (fun q => q ∈ [hm, r 0, r 1, r 2, r 3, r 4, r 5, r 6, r 7, r 8, r 9, r 10, r 11, r 13, r 14]) D true 0 0 [oM hm r 0 pg lg wt al 0 (C 0) (pF (C 0)) 0 an ch, aB cB (r 0) 65536 (Cm), aN cI (r 1) 256 (Dr), aN cI (r 2) 65536 (En), aN cI (r 3) 65536 (Ot), aZ cZ (r 4) 256 (Ib), aN cI (r 5) 256 (Bd), aN cI (r 6) 256 (Mn), aN cI (r 7) 23040 (q).1, aN cI (r 8) 23040 (q).2.1, aL cJ (r 9) 46080 (q).2.2.1, aL cJ (r 10) 92160 (q).2.2.2, aB cB (r 11) 48 T, aN cI (r 13) 256 (Ou), aN cI (r 14) 256 (Cg)] 71 [(0, .ref hm), (1, .int (iI ((ks : Nat) : Int))), (2, .int (iI ((z : Nat) : Int))), (3, .int (iI ((hsh T 0 ks : Nat) : Int))), (4, .int (iI ((entN C (idx C (hsh T 0 ks)) : Nat) : Int)))] [] := by
  intro m
  induction m with
  | zero => intro C wt al Cm Dr En Ot Ib Bd Mn q Ou Cg ch hc14 hd14 hm9 hF hj hI hE; omega
  | succ m ih =>
    intro C wt al Cm Dr En Ot Ib Bd Mn q Ou Cg ch hc14 hd14 hm9 hF hj hI hE
    obtain ⟨hA, hal, hR, hGc⟩ := hI
    replace hal : in32 al := hal
    replace hR : RM C lg Dr En Ib Bd Mn q := hR
    obtain ⟨w1, w2, w3, w4, w5, w6, w7⟩ := id hF.1.1
    have h14 := hF.1.2.2.2
    have h15 : 2 ^ C 0 ≤ 2 ^ 14 := Nat.pow_le_pow_right (by decide) h14
    have h15b : (2 : Nat) ^ 14 = 16384 := by decide
    have h16 : 0 < 2 ^ C 0 := Nat.pow_pos (by decide)
    have hpf := pF_le15 w4
    have hh := hsh_lt T 0 ks
    have hx := idx_lt (C := C) hh w4
    obtain ⟨p1, p2, p3, p4, p5⟩ := hF.2.1 _ hx
    have hRB := hR.rb hF hx
    have hm84 := hR.2.2.2.2.2.2.2.1
    have hmp := hm84 (entN C (idx C (hsh T 0 ks)))
    have hQ := hR.2.2.2.2.2.2.2.2
    have hbt := hRB.bL p4
    have hls := ls_eq hRB T ks
    have hll := less_le (T := T) (z := ks) p4
    have hb252 := p4.2.2
    have hal9 := al_eq hRB (hsh T 0 ks)
    have hfd := fd_eq hRB T ks
    have hbl := hR.2.2.2.2.2.2.1 (entN C (idx C (hsh T 0 ks)))
    have hbd := hRB.1
    refine v_aload_n (n := 72) k dX5_put_71 rfl rfl ?_
    refine v_iload (n := 74) k dX5_put_72 rfl rfl ?_
    refine v_iload_n (n := 75) k dX5_put_74 rfl rfl ?_
    refine v_iload_n (n := 76) k dX5_put_75 rfl rfl ?_
    refine v_rdVi (n := 79) k [0, 7, 8, 9, 10, 12] 0 (z_X5_filled (p := entN C (idx C (hsh T 0 ks))) (z := ks) (a := z) rfl rfl rfl hz (by omega) hks hmp hQ hT) miX5_filled ml_X5_181 (by decide) (by decide) rfl (by decide) rfl rfl rfl rfl (Nat.le_of_ble_eq_true rfl) ⟨Nat.zero_le _, Nat.zero_le _⟩ dX5_put_76 rfl ?_
    rw [hbt, hls]
    refine v_sipush (n := 82) k dX5_put_79 (by decide) rfl ?_
    refine v_icmp_le (n := 85) (t := 144) k (⟨by omega, by omega⟩) (⟨by omega, by omega⟩) dX5_put_82 (by decide) rfl (fun c_82 => ?_) (fun c_82 => ?_)
    · have hpy : plc C (entN C (idx C (hsh T 0 ks))) T ks z = true := decide_eq_true (by omega)
      refine v_aload_n (n := 145) k dX5_put_144 rfl rfl ?_
      refine v_iload (n := 147) k dX5_put_145 rfl rfl ?_
      refine v_iload_n (n := 148) k dX5_put_147 rfl rfl ?_
      refine v_rdVi (n := 151) k [0, 7, 8, 10, 12] 0 (z_X5_find (p := entN C (idx C (hsh T 0 ks))) (z := ks) rfl rfl (by omega) hks hmp hQ hT) miX5_find ml_X5_169 (by decide) (by decide) rfl (by decide) rfl rfl rfl rfl (Nat.le_of_ble_eq_true rfl) ⟨Nat.zero_le _, Nat.zero_le _⟩ dX5_put_148 rfl ?_
      rw [hfd]
      have hfi := fdI_c (o := fnd C (entN C (idx C (hsh T 0 ks))) T ks)
      have hfb : in32 (fdI (fnd C (entN C (idx C (hsh T 0 ks))) T ks)) := fdI_in (n := pb C (entN C (idx C (hsh T 0 ks))) 1) (by have := p4.count; omega) (fun r hr => fnd_lt hr)
      generalize fdI (fnd C (entN C (idx C (hsh T 0 ks))) T ks) = Y at hfi hfb ⊢
      refine v_istore (n := 153) k dX5_put_151 rfl (by decide) rfl rfl ?_
      refine v_iload (n := 155) k dX5_put_153 rfl rfl ?_
      refine v_iconst (n := 156) k dX5_put_155 rfl ?_
      refine v_icmp_eq (n := 159) (t := 167) k (hfb) (⟨by decide, by decide⟩) dX5_put_156 (by decide) rfl (fun c_156 => ?_) (fun c_156 => ?_)
      · refine v_lvf [(0, .ref hm), (1, .int (iI ((ks : Nat) : Int))), (2, .int (iI ((z : Nat) : Int))), (4, .int (iI ((entN C (idx C (hsh T 0 ks)) : Nat) : Int)))] ⟨rfl, rfl, rfl, rfl, trivial⟩ ?_
        have hfn : fnd C (entN C (idx C (hsh T 0 ks))) T ks = none := by
          rcases hfi with ⟨r9, -, h9⟩ | ⟨h9, -⟩
          · omega
          · exact h9
        clear hfi
        exact st_X5_put (Mn1 := Mn) (q1 := q) (F9 := pfF pg lg T ks z a0) k hq hF hj hA hal hGc hR hT hks1 hks hz hkz hz2 hx rfl hpy ⟨hQ, fun _ _ => rfl, fun _ _ _ _ => rfl⟩ (by rw [RB_rcs hRB, wL_none hfn]) (pf_0 (hE.trans (by rw [mp_s]; exact if_pos hpy))) 1 (by decide)
      · obtain ⟨r9, hr9, hY⟩ : ∃ r9, fnd C (entN C (idx C (hsh T 0 ks))) T ks = some r9 ∧ Y = ((r9 : Nat) : Int) := by
          rcases hfi with h9 | ⟨-, h9⟩
          · exact h9
          · exact absurd h9 c_156
        subst hY
        clear hfi
        have hrl := fnd_lt hr9
        have hmn := hRB.2.1
        refine v_aload_n (n := 160) k dX5_put_159 rfl rfl ?_
        refine v_iload (n := 162) k dX5_put_160 rfl rfl ?_
        refine v_iload (n := 164) k dX5_put_162 rfl rfl ?_
        refine v_upV (n := 167) k [0, 7, 8, 9, 10, 11] 0 (z_X5_drop (p := entN C (idx C (hsh T 0 ks))) (a := r9) rfl rfl (by omega) (by omega) hmp) miX5_drop ml_X5_166 (by decide) (by decide) rfl (by decide) rfl rfl rfl rfl (Nat.le_of_ble_eq_true rfl) ⟨Nat.zero_le _, Nat.zero_le _⟩ dX5_put_164 rfl ?_
        rintro _ _ ⟨rfl, rfl⟩
        dsimp only [wput, List.set, Option.toList, List.nil_append, List.cons_append]
        refine v_lvf [(0, .ref hm), (1, .int (iI ((ks : Nat) : Int))), (2, .int (iI ((z : Nat) : Int))), (4, .int (iI ((entN C (idx C (hsh T 0 ks)) : Nat) : Int)))] ⟨rfl, rfl, rfl, rfl, trivial⟩ ?_
        exact st_X5_put (Mn1 := upN Mn (entN C (idx C (hsh T 0 ks))) (Mn (entN C (idx C (hsh T 0 ks))) - 1)) (q1 := dpQ q (90 * entN C (idx C (hsh T 0 ks)) + r9) (Mn (entN C (idx C (hsh T 0 ks))) - 1 - r9)) (F9 := pfF pg lg T ks z a0) k hq hF hj hA hal hGc hR hT hks1 hks hz hkz hz2 hx rfl hpy ⟨QB_dp hQ _ _, fun j hj9 => by rw [upN_at, if_neg hj9], fun j r9 hj9 hr8 => by rw [rcB_dp hQ, if_neg (by omega)]⟩ (by rw [upN_at, if_pos rfl, rcs_drop hQ (by omega), RB_rcs hRB, wL_some hr9]) (pf_0 (hE.trans (by rw [mp_s]; exact if_pos hpy))) 1 (by decide)
    · have hpn : ¬ plc C (entN C (idx C (hsh T 0 ks))) T ks z = true := fun z9 => by
        have : bL C (entN C (idx C (hsh T 0 ks))) - less C (entN C (idx C (hsh T 0 ks))) T ks + 2 + z ≤ 252 := of_decide_eq_true z9
        omega
      refine v_aload_n (n := 86) k dX5_put_85 rfl rfl ?_
      refine v_iload (n := 88) k dX5_put_86 rfl rfl ?_
      refine v_iload_n (n := 89) k dX5_put_88 rfl rfl ?_
      refine v_rdVi (n := 92) k [0, 7, 8, 10] 0 (z_X5_isAlike (p := entN C (idx C (hsh T 0 ks))) (h := hsh T 0 ks) rfl rfl (by omega) hh hmp hQ) miX5_isAlike ml_X5_185 (by decide) (by decide) rfl (by decide) rfl rfl rfl rfl (Nat.le_of_ble_eq_true rfl) ⟨Nat.zero_le _, Nat.zero_le _⟩ dX5_put_89 rfl ?_
      rw [hal9]
      refine v_if_eq (n := 95) (t := 97) k (bI_in _) dX5_put_92 (by decide) rfl (fun c_92 => ?_) (fun c_92 => ?_)
      · have han : ¬ allH C (entN C (idx C (hsh T 0 ks))) (hsh T 0 ks) = true := by rw [bI_e0 c_92]; decide
        refine v_aload_n (n := 98) k dX5_put_97 rfl rfl ?_
        refine v_get (n := 101) k ciX5 0 13 (by decide) fl_X5_32 rfl rfl dX5_put_98 rfl ?_
        refine v_iload (n := 103) k dX5_put_101 rfl rfl ?_
        refine v_ialdN (n := 104) k 6 0 (entN C (idx C (hsh T 0 ks))) rfl rfl (by omega) (by omega) (by omega) dX5_put_103 rfl ?_
        refine v_aload_n (n := 105) k dX5_put_104 rfl rfl ?_
        refine v_get (n := 108) k ciX5 0 7 (by decide) fl_X5_95 rfl rfl dX5_put_105 rfl ?_
        refine v_icmp_ne (n := 111) (t := 118) k (⟨by omega, by omega⟩) (⟨by omega, by omega⟩) dX5_put_108 (by decide) rfl (fun c_108 => ?_) (fun c_108 => ?_)
        · refine v_aload_n (n := 119) k dX5_put_118 rfl rfl ?_
          refine v_iload (n := 121) k dX5_put_119 rfl rfl ?_
          refine v_upV (n := 124) k [0, 1, 2, 3, 4, 5, 6, 7, 8, 9, 10, 11, 13, 14] 0 (z_X5_splits (h := hsh T 0 ks) hF hj hA hal hGc hR hh rfl (by omega)) miX5_splits ml_X5_191 (by decide) (by decide) rfl (by decide) rfl rfl rfl rfl (Nat.le_of_ble_eq_true rfl) ⟨Nat.zero_le _, Nat.zero_le _⟩ dX5_put_121 rfl ?_
          rintro _ _ ⟨a9, s9, Cm9, Dr9, En9, Ot9, Ib9, Bd9, Mn9, q9, Ou9, Cg9, ch9, hst, rfl, hI9, rfl⟩
          dsimp only [wput, List.set, Option.toList, List.nil_append, List.cons_append]
          have hss : sSt (C, wt, al, 0) pg lg (hsh T 0 ks) = (s9, a9) := (if_neg (by show ¬ pb C (entN C (idx C (hsh T 0 ks))) 0 = C 0; omega)).trans hst
          have hrun := st_run hF hj hh hss
          have hs32 : in32 s9 := by
            rcases hrun with ⟨h9, -⟩ | h9
            · rw [h9]; exact ⟨by decide, by decide⟩
            · exact h9.in.1
          refine v_istore (n := 126) k dX5_put_124 rfl (by decide) rfl rfl ?_
          refine v_iload (n := 128) k dX5_put_126 rfl rfl ?_
          refine v_if_eq (n := 131) (t := 134) k (hs32) dX5_put_128 (by decide) rfl (fun c_128 => ?_) (fun c_128 => ?_)
          · have hmp9 : sMP pg lg (hsh T 0 ks) T ks z 64 a0 = sMP pg lg (hsh T 0 ks) T ks z m a9 := by
              rw [hE, mp_s, if_neg hpn, if_neg han, hss]
              exact if_pos c_128
            obtain ⟨-, hu, hmu⟩ : s9 = 0 ∧ UPS a9 pg lg ∧ a9.1 0 + pb a9.1 (entN a9.1 (idx a9.1 (hsh T 0 ks))) 0 = C 0 + pb C (entN C (idx C (hsh T 0 ks))) 0 + 1 := by
              rcases hrun with h9 | h9
              · exact h9
              · exact absurd c_128 h9.in.2
            obtain ⟨C9, wt9, al9, dn9⟩ := a9
            obtain ⟨u1, u2, u3, u4⟩ := hu
            have hd9 : dn9 = 0 := u2
            subst hd9
            replace u3 : pb C9 1 0 = 0 := u3
            replace u4 : FULL C9 pg lg := u4
            replace hmu : C9 0 + pb C9 (entN C9 (idx C9 (hsh T 0 ks))) 0 = C 0 + pb C (entN C (idx C (hsh T 0 ks))) 0 + 1 := hmu
            have h149 := u4.1.2.2.2
            have hx9 := idx_lt (C := C9) hh (by omega)
            have hen9 : En9 (hsh T 0 ks / 2 ^ (16 - C9 0)) = entN C9 (idx C9 (hsh T 0 ks)) := hI9.2.2.1.2.1 _ hx9
            have hp59 := (u4.2.1 _ hx9).2.2.2.2
            dsimp only
            refine v_aload_n (n := 135) k dX5_put_134 rfl rfl ?_
            refine v_iload_n (n := 136) k dX5_put_135 rfl rfl ?_
            refine v_rdVi (n := 139) k [0, 3, 12] 0 (z_X5_bucketOf (z := ks) rfl (by omega) (by omega) hT) miX5_bucketOf ml_X5_178 (by decide) (by decide) rfl (by decide) rfl rfl rfl rfl (Nat.le_of_ble_eq_true rfl) ⟨Nat.zero_le _, Nat.zero_le _⟩ dX5_put_136 rfl ?_
            rw [hen9]
            refine v_istore (n := 141) k dX5_put_139 rfl (by decide) rfl rfl ?_
            refine v_goto (t := 71) k dX5_put_141 (by decide) ?_
            refine v_lvf5a ?_
            exact ih C9 wt9 al9 Cm9 Dr9 En9 Ot9 Ib9 Bd9 Mn9 q9 Ou9 Cg9 ch9 (by omega) (by omega) (by omega) u4 u3 hI9 hmp9
          · refine v_iload (n := 133) k dX5_put_131 rfl rfl ?_
            refine v_iretU k hq ?_ rfl dX5_put_133
            refine PSU_mk ⟨a9, s9, Cm9, Dr9, En9, Ot9, Ib9, Bd9, Mn9, q9, Ou9, Cg9, ch9, ?_, rfl, hI9, rfl⟩
            exact pf_s (hE.trans (by rw [mp_s, if_neg hpn, if_neg han, hss]; exact if_neg c_128)) c_128
        · refine v_aload_n (n := 112) k dX5_put_111 rfl rfl ?_
          refine v_upV (n := 115) k [0, 1, 2, 3, 4, 5, 6, 7, 8, 9, 10, 11, 13, 14] 0 (z_X5_doubles hF hj hA hal hGc hR) miX5_doubles ml_X5_188 (by decide) (by decide) rfl (by decide) rfl rfl rfl rfl (Nat.le_of_ble_eq_true rfl) ⟨Nat.zero_le _, Nat.zero_le _⟩ dX5_put_112 rfl ?_
          rintro _ _ ⟨a9, s9, Cm9, Dr9, En9, Ot9, Ib9, Bd9, Mn9, q9, Ou9, Cg9, ch9, hst, rfl, hI9, rfl⟩
          dsimp only [wput, List.set, Option.toList, List.nil_append, List.cons_append]
          refine v_goto (t := 124) k dX5_put_115 (by decide) ?_
          have hss : sSt (C, wt, al, 0) pg lg (hsh T 0 ks) = (s9, a9) := (if_pos (by show pb C (entN C (idx C (hsh T 0 ks))) 0 = C 0; omega)).trans hst
          have hrun := st_run hF hj hh hss
          have hs32 : in32 s9 := by
            rcases hrun with ⟨h9, -⟩ | h9
            · rw [h9]; exact ⟨by decide, by decide⟩
            · exact h9.in.1
          refine v_istore (n := 126) k dX5_put_124 rfl (by decide) rfl rfl ?_
          refine v_iload (n := 128) k dX5_put_126 rfl rfl ?_
          refine v_if_eq (n := 131) (t := 134) k (hs32) dX5_put_128 (by decide) rfl (fun c_128 => ?_) (fun c_128 => ?_)
          · have hmp9 : sMP pg lg (hsh T 0 ks) T ks z 64 a0 = sMP pg lg (hsh T 0 ks) T ks z m a9 := by
              rw [hE, mp_s, if_neg hpn, if_neg han, hss]
              exact if_pos c_128
            obtain ⟨-, hu, hmu⟩ : s9 = 0 ∧ UPS a9 pg lg ∧ a9.1 0 + pb a9.1 (entN a9.1 (idx a9.1 (hsh T 0 ks))) 0 = C 0 + pb C (entN C (idx C (hsh T 0 ks))) 0 + 1 := by
              rcases hrun with h9 | h9
              · exact h9
              · exact absurd c_128 h9.in.2
            obtain ⟨C9, wt9, al9, dn9⟩ := a9
            obtain ⟨u1, u2, u3, u4⟩ := hu
            have hd9 : dn9 = 0 := u2
            subst hd9
            replace u3 : pb C9 1 0 = 0 := u3
            replace u4 : FULL C9 pg lg := u4
            replace hmu : C9 0 + pb C9 (entN C9 (idx C9 (hsh T 0 ks))) 0 = C 0 + pb C (entN C (idx C (hsh T 0 ks))) 0 + 1 := hmu
            have h149 := u4.1.2.2.2
            have hx9 := idx_lt (C := C9) hh (by omega)
            have hen9 : En9 (hsh T 0 ks / 2 ^ (16 - C9 0)) = entN C9 (idx C9 (hsh T 0 ks)) := hI9.2.2.1.2.1 _ hx9
            have hp59 := (u4.2.1 _ hx9).2.2.2.2
            dsimp only
            refine v_aload_n (n := 135) k dX5_put_134 rfl rfl ?_
            refine v_iload_n (n := 136) k dX5_put_135 rfl rfl ?_
            refine v_rdVi (n := 139) k [0, 3, 12] 0 (z_X5_bucketOf (z := ks) rfl (by omega) (by omega) hT) miX5_bucketOf ml_X5_178 (by decide) (by decide) rfl (by decide) rfl rfl rfl rfl (Nat.le_of_ble_eq_true rfl) ⟨Nat.zero_le _, Nat.zero_le _⟩ dX5_put_136 rfl ?_
            rw [hen9]
            refine v_istore (n := 141) k dX5_put_139 rfl (by decide) rfl rfl ?_
            refine v_goto (t := 71) k dX5_put_141 (by decide) ?_
            refine v_lvf5a ?_
            exact ih C9 wt9 al9 Cm9 Dr9 En9 Ot9 Ib9 Bd9 Mn9 q9 Ou9 Cg9 ch9 (by omega) (by omega) (by omega) u4 u3 hI9 hmp9
          · refine v_iload (n := 133) k dX5_put_131 rfl rfl ?_
            refine v_iretU k hq ?_ rfl dX5_put_133
            refine PSU_mk ⟨a9, s9, Cm9, Dr9, En9, Ot9, Ib9, Bd9, Mn9, q9, Ou9, Cg9, ch9, ?_, rfl, hI9, rfl⟩
            exact pf_s (hE.trans (by rw [mp_s, if_neg hpn, if_neg han, hss]; exact if_neg c_128)) c_128
      · have hay : allH C (entN C (idx C (hsh T 0 ks))) (hsh T 0 ks) = true := bI_n0 c_92
        refine v_iconst (n := 96) k dX5_put_95 rfl ?_
        refine v_iretU k hq ?_ rfl dX5_put_96
        refine PSU_mk ⟨(C, wt, al, 0), 3, Cm, Dr, En, Ot, Ib, Bd, Mn, q, Ou, Cg, ch, ?_, rfl, ⟨hA, hal, hR, hGc⟩, rfl⟩
        exact pf_s (hE.trans (by rw [mp_s, if_neg hpn]; exact if_pos hay)) (by decide)
set_option maxHeartbeats 1000000 in
set_option maxRecDepth 20000 in
theorem z_X5_put {D : va_G} {cI cB cJ cZ : ClassId} {hm : Nat} {r : Nat → Nat} {th : Int} {pg lg : Nat} {wt al dn : Int} {tp an ch : Nat} {T C : Nat → Nat} {Cm Dr En Ot : Nat → Nat} {Ib : Nat → Bool} {Bd Mn : Nat → Nat} {q : RQ} {Ou Cg : Nat → Nat} {K : Int} (hK : in32 K) (hdn : dn = 0 ∨ dn = 1) (hU : dn = 0 → FULL C pg lg ∧ pb C 1 0 = 0) (hI : RI pg lg (C, wt, al, dn) Cm Dr En Ib Bd Mn q Cg) (htp : tp ≤ 48) (hT : ∀ j, T j < 256) : ∀ l, Up l yX5_put cX5_put 8 (some .int) ({ frames := 5, cells := 0, slots := 0, locals := 115 }) D (TY cI cB cJ cZ) [.ref hm, .int (iI K)] [oM hm r th pg lg wt al dn (C 0) (pF (C 0)) tp an ch, aB cB (r 0) 65536 (Cm), aN cI (r 1) 256 (Dr), aN cI (r 2) 65536 (En), aN cI (r 3) 65536 (Ot), aZ cZ (r 4) 256 (Ib), aN cI (r 5) 256 (Bd), aN cI (r 6) 256 (Mn), aN cI (r 7) 23040 (q).1, aN cI (r 8) 23040 (q).2.1, aL cJ (r 9) 46080 (q).2.2.1, aL cJ (r 10) 92160 (q).2.2.2, aB cB (r 11) 48 T, aN cI (r 13) 256 (Ou), aN cI (r 14) 256 (Cg)] (PSU cI cB cJ cZ hm r (puT dn K tp) pg lg an T (if puT dn K tp = 0 then pfF pg lg T K.toNat tp (C, wt, al, dn) else (0, (C, wt, al, dn)))) := by
  intro l
  refine Up_of (by decide) (Nat.le_of_ble_eq_true rfl) (fun x k hq => ?_)
  obtain ⟨hk1, hk2⟩ := id hK
  refine v_aload_n (n := 1) k dX5_put_0 rfl rfl ?_
  refine v_iconst (n := 2) k dX5_put_1 rfl ?_
  refine v_put (n := 5) k ciX5 0 0 (by decide) fl_X5_1 rfl rfl (rfl) (rfl) (Nat.le_of_ble_eq_true rfl) dX5_put_2 rfl ?_
  refine v_aload_n (n := 6) k dX5_put_5 rfl rfl ?_
  refine v_get (n := 9) k ciX5 0 20 (by decide) fl_X5_172 rfl rfl dX5_put_6 rfl ?_
  refine v_istore_n (n := 10) k dX5_put_9 rfl (by decide) rfl rfl ?_
  refine v_aload_n (n := 11) k dX5_put_10 rfl rfl ?_
  refine v_iconst (n := 12) k dX5_put_11 rfl ?_
  refine v_put (n := 15) k ciX5 0 20 (by decide) fl_X5_172 rfl rfl (rfl) (rfl) (Nat.le_of_ble_eq_true rfl) dX5_put_12 rfl ?_
  refine v_aload_n (n := 16) k dX5_put_15 rfl rfl ?_
  refine v_get (n := 19) k ciX5 0 6 (by decide) fl_X5_81 rfl rfl dX5_put_16 rfl ?_
  refine v_if_eq (n := 22) (t := 28) k (⟨by omega, by omega⟩) dX5_put_19 (by decide) rfl (fun c_19 => ?_) (fun c_19 => ?_)
  · have hd0 : dn = 0 := by omega
    subst hd0
    refine v_iload_n (n := 29) k dX5_put_28 rfl rfl ?_
    refine v_iconst (n := 30) k dX5_put_29 rfl ?_
    refine v_icmp_lt (n := 33) (t := 52) k (⟨by omega, by omega⟩) (⟨by omega, by omega⟩) dX5_put_30 (by decide) rfl (fun c_30 => ?_) (fun c_30 => ?_)
    · have ht9 : puT 0 K tp = 2 := (if_neg (by decide)).trans (if_pos (by omega))
      refine v_aload_n (n := 53) k dX5_put_52 rfl rfl ?_
      refine v_iconst (n := 54) k dX5_put_53 rfl ?_
      refine v_upV (n := 57) k [0] 0 (z_X5_throwing) miX5_throwing ml_X5_175 (by decide) (by decide) rfl (by decide) rfl rfl rfl rfl (Nat.le_of_ble_eq_true rfl) ⟨Nat.zero_le _, Nat.zero_le _⟩ dX5_put_54 rfl ?_
      rintro _ _ ⟨rfl, rfl⟩
      dsimp only [wput, List.set, Option.toList, List.nil_append, List.cons_append]
      refine v_iretU k hq ?_ rfl dX5_put_57
      refine PSU_mk ⟨(C, wt, al, 0), 0, Cm, Dr, En, Ot, Ib, Bd, Mn, q, Ou, Cg, ch, ?_, rfl, hI, ?_⟩
      · rw [ht9]; exact if_neg (by decide)
      · rw [ht9]
    · refine v_iload_n (n := 34) k dX5_put_33 rfl rfl ?_
      refine v_bipush (n := 36) k dX5_put_34 (by decide) rfl ?_
      refine v_icmp_gt (n := 39) (t := 52) k (⟨by omega, by omega⟩) (⟨by omega, by omega⟩) dX5_put_36 (by decide) rfl (fun c_36 => ?_) (fun c_36 => ?_)
      · have ht9 : puT 0 K tp = 2 := (if_neg (by decide)).trans (if_pos (by omega))
        refine v_aload_n (n := 53) k dX5_put_52 rfl rfl ?_
        refine v_iconst (n := 54) k dX5_put_53 rfl ?_
        refine v_upV (n := 57) k [0] 0 (z_X5_throwing) miX5_throwing ml_X5_175 (by decide) (by decide) rfl (by decide) rfl rfl rfl rfl (Nat.le_of_ble_eq_true rfl) ⟨Nat.zero_le _, Nat.zero_le _⟩ dX5_put_54 rfl ?_
        rintro _ _ ⟨rfl, rfl⟩
        dsimp only [wput, List.set, Option.toList, List.nil_append, List.cons_append]
        refine v_iretU k hq ?_ rfl dX5_put_57
        refine PSU_mk ⟨(C, wt, al, 0), 0, Cm, Dr, En, Ot, Ib, Bd, Mn, q, Ou, Cg, ch, ?_, rfl, hI, ?_⟩
        · rw [ht9]; exact if_neg (by decide)
        · rw [ht9]
      · refine v_iload_n (n := 40) k dX5_put_39 rfl rfl ?_
        refine v_iload_n (n := 41) k dX5_put_40 rfl rfl ?_
        refine v_icmp_gt (n := 44) (t := 52) k (⟨by omega, by omega⟩) (⟨by omega, by omega⟩) dX5_put_41 (by decide) rfl (fun c_41 => ?_) (fun c_41 => ?_)
        · have ht9 : puT 0 K tp = 2 := (if_neg (by decide)).trans (if_pos (by omega))
          refine v_aload_n (n := 53) k dX5_put_52 rfl rfl ?_
          refine v_iconst (n := 54) k dX5_put_53 rfl ?_
          refine v_upV (n := 57) k [0] 0 (z_X5_throwing) miX5_throwing ml_X5_175 (by decide) (by decide) rfl (by decide) rfl rfl rfl rfl (Nat.le_of_ble_eq_true rfl) ⟨Nat.zero_le _, Nat.zero_le _⟩ dX5_put_54 rfl ?_
          rintro _ _ ⟨rfl, rfl⟩
          dsimp only [wput, List.set, Option.toList, List.nil_append, List.cons_append]
          refine v_iretU k hq ?_ rfl dX5_put_57
          refine PSU_mk ⟨(C, wt, al, 0), 0, Cm, Dr, En, Ot, Ib, Bd, Mn, q, Ou, Cg, ch, ?_, rfl, hI, ?_⟩
          · rw [ht9]; exact if_neg (by decide)
          · rw [ht9]
        · refine v_iload_n (n := 45) k dX5_put_44 rfl rfl ?_
          refine v_iload_n (n := 46) k dX5_put_45 rfl rfl ?_
          refine v_isub (n := 47) k dX5_put_46 rfl ?_
          refine v_bipush (n := 49) k dX5_put_47 (by decide) rfl ?_
          refine v_icmp_le (n := 52) (t := 58) k (⟨by omega, by omega⟩) (⟨by omega, by omega⟩) dX5_put_49 (by decide) rfl (fun c_49 => ?_) (fun c_49 => ?_)
          · have ht9 : puT 0 K tp = 0 := (if_neg (by decide)).trans (if_neg (by omega))
            obtain ⟨hF, hj⟩ := hU rfl
            obtain ⟨w1, w2, w3, w4, w5, w6, w7⟩ := id hF.1.1
            have h14 := hF.1.2.2.2
            have h15 : 2 ^ C 0 ≤ 2 ^ 14 := Nat.pow_le_pow_right (by decide) h14
            have h15b : (2 : Nat) ^ 14 = 16384 := by decide
            have h16 : 0 < 2 ^ C 0 := Nat.pow_pos (by decide)
            have hpf := pF_le15 w4
            have hh := hsh_lt T 0 K.toNat
            have hx := idx_lt (C := C) hh w4
            have hp5 := (hF.2.1 _ hx).2.2.2.2
            have hen : En (hsh T 0 K.toNat / 2 ^ (16 - C 0)) = entN C (idx C (hsh T 0 K.toNat)) := hI.2.2.1.2.1 _ hx
            refine v_aload_n (n := 59) k dX5_put_58 rfl rfl ?_
            refine v_iload_n (n := 60) k dX5_put_59 rfl rfl ?_
            refine v_rdVi (n := 63) k [0, 12] 0 (z_X5_tapeHash (z := K.toNat) (by omega) (by omega) hT) miX5_tapeHash ml_X5_140 (by decide) (by decide) rfl (by decide) rfl rfl rfl rfl (Nat.le_of_ble_eq_true rfl) ⟨Nat.zero_le _, Nat.zero_le _⟩ dX5_put_60 rfl ?_
            refine v_istore_n (n := 64) k dX5_put_63 rfl (by decide) rfl rfl ?_
            refine v_aload_n (n := 65) k dX5_put_64 rfl rfl ?_
            refine v_iload_n (n := 66) k dX5_put_65 rfl rfl ?_
            refine v_rdVi (n := 69) k [0, 3, 12] 0 (z_X5_bucketOf (z := K.toNat) (by omega) (by omega) (by omega) hT) miX5_bucketOf ml_X5_178 (by decide) (by decide) rfl (by decide) rfl rfl rfl rfl (Nat.le_of_ble_eq_true rfl) ⟨Nat.zero_le _, Nat.zero_le _⟩ dX5_put_66 rfl ?_
            rw [hen]
            refine v_istore (n := 71) k dX5_put_69 rfl (by decide) rfl rfl ?_
            obtain ⟨ks, hks⟩ : ∃ ks : Nat, K = (ks : Int) := ⟨K.toNat, by omega⟩
            subst hks
            rw [ht9, if_pos rfl] at hq
            exact lp_X5_put (ks := ks) (z := tp) (a0 := (C, wt, al, 0)) k hq hT (by omega) (by omega) htp (by omega) (by omega) 64 C wt al Cm Dr En Ot Ib Bd Mn q Ou Cg ch (by omega) (by have : pb C (entN C (idx C (hsh T 0 ks))) 0 ≤ C 0 := hp5; omega) (by omega) hF hj hI rfl
          · have ht9 : puT 0 K tp = 2 := (if_neg (by decide)).trans (if_pos (by omega))
            refine v_aload_n (n := 53) k dX5_put_52 rfl rfl ?_
            refine v_iconst (n := 54) k dX5_put_53 rfl ?_
            refine v_upV (n := 57) k [0] 0 (z_X5_throwing) miX5_throwing ml_X5_175 (by decide) (by decide) rfl (by decide) rfl rfl rfl rfl (Nat.le_of_ble_eq_true rfl) ⟨Nat.zero_le _, Nat.zero_le _⟩ dX5_put_54 rfl ?_
            rintro _ _ ⟨rfl, rfl⟩
            dsimp only [wput, List.set, Option.toList, List.nil_append, List.cons_append]
            refine v_iretU k hq ?_ rfl dX5_put_57
            refine PSU_mk ⟨(C, wt, al, 0), 0, Cm, Dr, En, Ot, Ib, Bd, Mn, q, Ou, Cg, ch, ?_, rfl, hI, ?_⟩
            · rw [ht9]; exact if_neg (by decide)
            · rw [ht9]
  · have ht9 : puT dn K tp = 1 := if_pos (by omega)
    refine v_aload_n (n := 23) k dX5_put_22 rfl rfl ?_
    refine v_iconst (n := 24) k dX5_put_23 rfl ?_
    refine v_upV (n := 27) k [0] 0 (z_X5_throwing) miX5_throwing ml_X5_175 (by decide) (by decide) rfl (by decide) rfl rfl rfl rfl (Nat.le_of_ble_eq_true rfl) ⟨Nat.zero_le _, Nat.zero_le _⟩ dX5_put_24 rfl ?_
    rintro _ _ ⟨rfl, rfl⟩
    dsimp only [wput, List.set, Option.toList, List.nil_append, List.cons_append]
    refine v_iretU k hq ?_ rfl dX5_put_27
    refine PSU_mk ⟨(C, wt, al, dn), 0, Cm, Dr, En, Ot, Ib, Bd, Mn, q, Ou, Cg, ch, ?_, rfl, hI, ?_⟩
    · rw [ht9]; exact if_neg (by decide)
    · rw [ht9]
