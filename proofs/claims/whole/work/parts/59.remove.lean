def rmT (dn : Int) (tp : Nat) : Int := if dn = 1 then 1 else if tp < 1 ∨ 16 < tp then 2 else 0
/-- what is left to do behind the merges -/
def mH (pg lg : Nat) (r : Int × DA) : Int × DA := if r.1 = 4 then (4, r.2) else sHA pg lg 64 r.2
/-- remove, where nothing is refused -/
def rvF (pg lg : Nat) (T : Nat → Nat) (z : Nat) (a : DA) : Int × DA := match fnd a.1 (entN a.1 (idx a.1 (hsh T 0 z))) T z with
  | none => (-1, a)
  | some _ => rmF pg lg (hsh T 0 z) (entN a.1 (idx a.1 (hsh T 0 z))) (bpg (pb a.1 (entN a.1 (idx a.1 (hsh T 0 z))) 0) (wL a.1 (entN a.1 (idx a.1 (hsh T 0 z))) T z)) a
theorem rmF_0 {pg lg h p : Nat} {f : Nat → Nat} {a a1 : DA} (e : stC (sW a p f) = (0, a1)) : rmF pg lg h p f a = mH pg lg (sMA lg h 64 a1) := by
  unfold rmF
  rw [e]
  rfl
theorem rmF_s {pg lg h p : Nat} {f : Nat → Nat} {a a1 : DA} {s : Int} (e : stC (sW a p f) = (s, a1)) (hs : s ≠ 0) : rmF pg lg h p f a = (s, a1) := by
  unfold rmF
  rw [e]
  exact if_neg hs
theorem stC_cs {r : Bool × DA} {s9 : Int} {a9 : DA} (e : stC r = (s9, a9)) : (s9 = 0 ∧ r = (true, a9)) ∨ (s9 = 4 ∧ r = (false, a9)) := by
  obtain ⟨b, a⟩ := r
  cases b with
  | true => cases e; exact Or.inl ⟨rfl, rfl⟩
  | false => cases e; exact Or.inr ⟨rfl, rfl⟩
theorem mr_in {a a9 : DA} {lg h : Nat} {s9 : Int} (e : mrF a lg h = (s9, a9)) : s9 = 0 ∨ s9 = 4 ∨ s9 = -1 := by
  unfold mrF at e
  cases e0 : mpN a.1 h with
  | none => rw [e0] at e; cases e; exact Or.inr (Or.inr rfl)
  | some o =>
    rw [e0] at e
    dsimp only at e
    by_cases h2 : (sMrg a lg h o).1 = 2
    · rw [if_pos h2] at e; cases e; exact Or.inr (Or.inr rfl)
    · rw [if_neg h2] at e
      unfold sMrg at e h2
      split at e
      · rename_i hl
        rw [if_pos hl] at h2
        exact absurd rfl h2
      · rcases stC_cs e with ⟨h9, -⟩ | ⟨h9, -⟩
        · exact Or.inl h9
        · exact Or.inr (Or.inl h9)
theorem hv_in {a a9 : DA} {pg lg : Nat} {s9 : Int} (e : hvF a pg lg = (s9, a9)) : s9 = 0 ∨ s9 = 4 ∨ s9 = -1 := by
  unfold hvF at e
  split at e
  · cases e; exact Or.inr (Or.inr rfl)
  · split at e
    · cases e; exact Or.inr (Or.inr rfl)
    · rcases stC_cs e with ⟨h9, -⟩ | ⟨h9, -⟩
      · exact Or.inl h9
      · exact Or.inr (Or.inl h9)
set_option maxHeartbeats 1000000 in
set_option maxRecDepth 20000 in
theorem st_X5_removeC {D : va_G} {cI cB cJ cZ : ClassId} {x : Kx} {hm : Nat} {r : Nat → Nat} {pg lg : Nat} {an ch : Nat} {T : Nat → Nat} {a : DA} {Cm Dr En Ot : Nat → Nat} {Ib : Nat → Bool} {Bd Mn : Nat → Nat} {q : RQ} {Ou Cg : Nat → Nat} {S : Int} {G9 : Int × DA} (k : Kf x cX5_remove 6 yX5_remove.cls (some .int) D (TY cI cB cJ cZ) ({ frames := 5, cells := 0, slots := 0, locals := 118 })) (hq : isU x D [hm, r 0, r 1, r 2, r 3, r 4, r 5, r 6, r 7, r 8, r 9, r 10, r 11, r 13, r 14] (PSU cI cB cJ cZ hm r 0 pg lg an T G9)) (hI : RI pg lg a Cm Dr En Ib Bd Mn q Cg) (hS : (S = 4 ∧ G9 = (4, a)) ∨ (S = -1 ∧ G9 = (0, a))) : ∀ (m : Nat) , 0 < m → Vw x 6 (fun q => q ∈ [hm, r 0, r 1, r 2, r 3, r 4, r 5, r 6, r 7, r 8, r 9, r 10, r 11, r 13, r 14]) D true 0 0 [oM hm r 0 pg lg (a).2.1 (a).2.2.1 (a).2.2.2 ((a).1 0) (pF ((a).1 0)) 0 an ch, aB cB (r 0) 65536 (Cm), aN cI (r 1) 256 (Dr), aN cI (r 2) 65536 (En), aN cI (r 3) 65536 (Ot), aZ cZ (r 4) 256 (Ib), aN cI (r 5) 256 (Bd), aN cI (r 6) 256 (Mn), aN cI (r 7) 23040 (q).1, aN cI (r 8) 23040 (q).2.1, aL cJ (r 9) 46080 (q).2.2.1, aL cJ (r 10) 92160 (q).2.2.2, aB cB (r 11) 48 T, aN cI (r 13) 256 (Ou), aN cI (r 14) 256 (Cg)] 119 [(0, .ref hm), (4, .int (iI S))] [] := by
  intro m
  induction m with
  | zero => intro hm9; omega
  | succ m ih =>
    intro hm9
    clear ih
    have hS2 : S = 4 ∨ S = -1 := by rcases hS with h | h <;> omega
    refine v_iload (n := 121) k dX5_remove_119 rfl rfl ?_
    refine v_if_ne (n := 124) (t := 133) k (⟨by omega, by omega⟩) dX5_remove_121 (by decide) rfl (fun c_121 => ?_) (fun c_121 => ?_)
    · refine v_iload (n := 135) k dX5_remove_133 rfl rfl ?_
      refine v_iconst (n := 136) k dX5_remove_135 rfl ?_
      refine v_icmp_ne (n := 139) (t := 143) k (⟨by omega, by omega⟩) (⟨by omega, by omega⟩) dX5_remove_136 (by decide) rfl (fun c_136 => ?_) (fun c_136 => ?_)
      · refine v_iconst (n := 144) k dX5_remove_143 rfl ?_
        refine v_iretU k hq ?_ rfl dX5_remove_144
        rcases hS with h9 | h9
        · exfalso; omega
        · refine PSU_mk ⟨a, 0, Cm, Dr, En, Ot, Ib, Bd, Mn, q, Ou, Cg, ch, h9.2, rfl, hI, rfl⟩
      · refine v_iconst (n := 140) k dX5_remove_139 rfl ?_
        refine v_goto (t := 144) k dX5_remove_140 (by decide) ?_
        refine v_iretU k hq ?_ rfl dX5_remove_144
        rcases hS with h9 | h9
        · refine PSU_mk ⟨a, 4, Cm, Dr, En, Ot, Ib, Bd, Mn, q, Ou, Cg, ch, h9.2, rfl, hI, rfl⟩
        · exfalso; omega
    · exfalso; omega
set_option maxHeartbeats 1000000 in
set_option maxRecDepth 20000 in
theorem lp_X5_removeH {D : va_G} {cI cB cJ cZ : ClassId} {x : Kx} {hm : Nat} {r : Nat → Nat} {pg lg : Nat} {an : Nat} {T : Nat → Nat} {G9 : Int × DA} (k : Kf x cX5_remove 6 yX5_remove.cls (some .int) D (TY cI cB cJ cZ) ({ frames := 5, cells := 0, slots := 0, locals := 118 })) (hq : isU x D [hm, r 0, r 1, r 2, r 3, r 4, r 5, r 6, r 7, r 8, r 9, r 10, r 11, r 13, r 14] (PSU cI cB cJ cZ hm r 0 pg lg an T G9))  : ∀ (m : Nat) (n : Nat) (C : Nat → Nat) (wt al : Int) (Cm Dr En Ot : Nat → Nat) (Ib : Nat → Bool) (Bd Mn : Nat → Nat) (q : RQ) (Ou Cg : Nat → Nat) (ch : Nat), C 0 + 1 < m → C 0 < n → FULL C pg lg → pb C 1 0 = 0 → RI pg lg (C, wt, al, 0) Cm Dr En Ib Bd Mn q Cg → G9 = sHA pg lg n (C, wt, al, 0) → Vw x 6 (fun q => q ∈ [hm, r 0, r 1, r 2, r 3, r 4, r 5, r 6, r 7, r 8, r 9, r 10, r 11, r 13, r 14]) D true 0 0 [oM hm r 0 pg lg wt al 0 (C 0) (pF (C 0)) 0 an ch, aB cB (r 0) 65536 (Cm), aN cI (r 1) 256 (Dr), aN cI (r 2) 65536 (En), aN cI (r 3) 65536 (Ot), aZ cZ (r 4) 256 (Ib), aN cI (r 5) 256 (Bd), aN cI (r 6) 256 (Mn), aN cI (r 7) 23040 (q).1, aN cI (r 8) 23040 (q).2.1, aL cJ (r 9) 46080 (q).2.2.1, aL cJ (r 10) 92160 (q).2.2.2, aB cB (r 11) 48 T, aN cI (r 13) 256 (Ou), aN cI (r 14) 256 (Cg)] 119 [(0, .ref hm), (4, .int (iI 0))] [] := by
  intro m
  induction m with
  | zero => intro n C wt al Cm Dr En Ot Ib Bd Mn q Ou Cg ch hm9 hn9 hF hj hI hG; omega
  | succ m ih =>
    intro n C wt al Cm Dr En Ot Ib Bd Mn q Ou Cg ch hm9 hn9 hF hj hI hG
    obtain ⟨hA, hal, hR, hGc⟩ := id hI
    replace hal : in32 al := hal
    replace hR : RM C lg Dr En Ib Bd Mn q := hR
    obtain ⟨n, rfl⟩ : ∃ n', n = n' + 1 := ⟨n - 1, by omega⟩
    refine v_iload (n := 121) k dX5_remove_119 rfl rfl ?_
    refine v_if_ne (n := 124) (t := 133) k (⟨by omega, by omega⟩) dX5_remove_121 (by decide) rfl (fun c_121 => ?_) (fun c_121 => ?_)
    · exfalso; omega
    · refine v_aload_n (n := 125) k dX5_remove_124 rfl rfl ?_
      refine v_upV (n := 128) k [0, 1, 2, 3, 4, 5, 6, 7, 8, 9, 10, 11, 13, 14] 0 (z_X5_halves hF hj hA hal hGc hR) miX5_halves ml_X5_205 (by decide) (by decide) rfl (by decide) rfl rfl rfl rfl (Nat.le_of_ble_eq_true rfl) ⟨Nat.zero_le _, Nat.zero_le _⟩ dX5_remove_125 rfl ?_
      rintro _ _ ⟨a9, s9, Cm9, Dr9, En9, Ot9, Ib9, Bd9, Mn9, q9, Ou9, Cg9, ch9, hst, rfl, hI9, rfl⟩
      dsimp only [wput, List.set, Option.toList, List.nil_append, List.cons_append]
      have hrun := hv_run hF hj hst
      have hin := hv_in hst
      obtain ⟨hs0, hs4, hsn⟩ := ha_s (a := (C, wt, al, 0)) (pg := pg) (lg := lg) (n := n)
      refine v_istore (n := 130) k dX5_remove_128 rfl (by decide) rfl rfl ?_
      refine v_goto (t := 119) k dX5_remove_130 (by decide) ?_
      by_cases h0 : s9 = 0
      · subst h0
        obtain ⟨-, hu, hmu⟩ : (0 : Int) = 0 ∧ UPS a9 pg lg ∧ a9.1 0 + 1 = C 0 := by
          rcases hrun with h9 | h9
          · exact h9
          · exact absurd rfl h9.in.2
        have hG9 := hG.trans (hs0 a9 hst)
        obtain ⟨C9, wt9, al9, dn9⟩ := a9
        obtain ⟨u1, u2, u3, u4⟩ := hu
        have hd9 : dn9 = 0 := u2
        subst hd9
        replace u3 : pb C9 1 0 = 0 := u3
        replace u4 : FULL C9 pg lg := u4
        replace hmu : C9 0 + 1 = C 0 := hmu
        exact ih n C9 wt9 al9 Cm9 Dr9 En9 Ot9 Ib9 Bd9 Mn9 q9 Ou9 Cg9 ch9 (by omega) (by omega) u4 u3 hI9 hG9
      · exact st_X5_removeC k hq hI9 (by
          rcases hin with h9 | h9 | h9
          · exact absurd h9 h0
          · subst h9; exact Or.inl ⟨rfl, hG.trans (hs4 a9 hst)⟩
          · subst h9; exact Or.inr ⟨rfl, hG.trans (hsn a9 hst)⟩) 1 (by decide)
set_option maxHeartbeats 1000000 in
set_option maxRecDepth 20000 in
theorem st_X5_removeB {D : va_G} {cI cB cJ cZ : ClassId} {x : Kx} {hm : Nat} {r : Nat → Nat} {pg lg : Nat} {an ch : Nat} {T : Nat → Nat} {a : DA} {Cm Dr En Ot : Nat → Nat} {Ib : Nat → Bool} {Bd Mn : Nat → Nat} {q : RQ} {Ou Cg : Nat → Nat} {S : Int} {h : Nat} {G9 : Int × DA} (k : Kf x cX5_remove 6 yX5_remove.cls (some .int) D (TY cI cB cJ cZ) ({ frames := 5, cells := 0, slots := 0, locals := 118 })) (hq : isU x D [hm, r 0, r 1, r 2, r 3, r 4, r 5, r 6, r 7, r 8, r 9, r 10, r 11, r 13, r 14] (PSU cI cB cJ cZ hm r 0 pg lg an T G9)) (hI : RI pg lg a Cm Dr En Ib Bd Mn q Cg) (hS : (S = 4 ∧ G9 = (4, a)) ∨ (S = -1 ∧ UPS a pg lg ∧ G9 = sHA pg lg 64 a)) : ∀ (m : Nat) , 0 < m → Vw x 6 (fun q => q ∈ [hm, r 0, r 1, r 2, r 3, r 4, r 5, r 6, r 7, r 8, r 9, r 10, r 11, r 13, r 14]) D true 0 0 [oM hm r 0 pg lg (a).2.1 (a).2.2.1 (a).2.2.2 ((a).1 0) (pF ((a).1 0)) 0 an ch, aB cB (r 0) 65536 (Cm), aN cI (r 1) 256 (Dr), aN cI (r 2) 65536 (En), aN cI (r 3) 65536 (Ot), aZ cZ (r 4) 256 (Ib), aN cI (r 5) 256 (Bd), aN cI (r 6) 256 (Mn), aN cI (r 7) 23040 (q).1, aN cI (r 8) 23040 (q).2.1, aL cJ (r 9) 46080 (q).2.2.1, aL cJ (r 10) 92160 (q).2.2.2, aB cB (r 11) 48 T, aN cI (r 13) 256 (Ou), aN cI (r 14) 256 (Cg)] 85 [(0, .ref hm), (4, .int (iI S)), (5, .int (iI ((h : Nat) : Int)))] [] := by
  intro m
  induction m with
  | zero => intro hm9; omega
  | succ m ih =>
    intro hm9
    clear ih
    have hS2 : S = 4 ∨ S = -1 := by rcases hS with h | h <;> omega
    refine v_iload (n := 87) k dX5_remove_85 rfl rfl ?_
    refine v_if_ne (n := 90) (t := 108) k (⟨by omega, by omega⟩) dX5_remove_87 (by decide) rfl (fun c_87 => ?_) (fun c_87 => ?_)
    · refine v_iload (n := 110) k dX5_remove_108 rfl rfl ?_
      refine v_iconst (n := 111) k dX5_remove_110 rfl ?_
      refine v_icmp_ne (n := 114) (t := 116) k (⟨by omega, by omega⟩) (⟨by omega, by omega⟩) dX5_remove_111 (by decide) rfl (fun c_111 => ?_) (fun c_111 => ?_)
      · refine v_iconst (n := 117) k dX5_remove_116 rfl ?_
        refine v_istore (n := 119) k dX5_remove_117 rfl (by decide) rfl rfl ?_
        obtain ⟨-, hu, hG⟩ : S = -1 ∧ UPS a pg lg ∧ G9 = sHA pg lg 64 a := by
          rcases hS with h9 | h9
          · exfalso; omega
          · exact h9
        obtain ⟨C, wt, al, dn⟩ := a
        obtain ⟨u1, u2, u3, u4⟩ := hu
        have hd9 : dn = 0 := u2
        subst hd9
        replace u3 : pb C 1 0 = 0 := u3
        replace u4 : FULL C pg lg := u4
        have h14 := u4.1.2.2.2
        refine v_lvf [(0, .ref hm), (4, .int (iI 0))] ⟨rfl, rfl, trivial⟩ ?_
        exact lp_X5_removeH k hq 32 64 C wt al Cm Dr En Ot Ib Bd Mn q Ou Cg ch (by omega) (by omega) u4 u3 hI hG
      · refine v_iconst (n := 115) k dX5_remove_114 rfl ?_
        refine v_iretU k hq ?_ rfl dX5_remove_115
        rcases hS with h9 | h9
        · refine PSU_mk ⟨a, 4, Cm, Dr, En, Ot, Ib, Bd, Mn, q, Ou, Cg, ch, h9.2, rfl, hI, rfl⟩
        · exfalso; omega
    · exfalso; omega
set_option maxHeartbeats 1000000 in
set_option maxRecDepth 20000 in
theorem lp_X5_removeM {D : va_G} {cI cB cJ cZ : ClassId} {x : Kx} {hm : Nat} {r : Nat → Nat} {pg lg : Nat} {an : Nat} {T : Nat → Nat} {h : Nat} {G9 : Int × DA} (k : Kf x cX5_remove 6 yX5_remove.cls (some .int) D (TY cI cB cJ cZ) ({ frames := 5, cells := 0, slots := 0, locals := 118 })) (hq : isU x D [hm, r 0, r 1, r 2, r 3, r 4, r 5, r 6, r 7, r 8, r 9, r 10, r 11, r 13, r 14] (PSU cI cB cJ cZ hm r 0 pg lg an T G9)) (hh : h < 65536) : ∀ (m : Nat) (n : Nat) (C : Nat → Nat) (wt al : Int) (Cm Dr En Ot : Nat → Nat) (Ib : Nat → Bool) (Bd Mn : Nat → Nat) (q : RQ) (Ou Cg : Nat → Nat) (ch : Nat), pb C (entN C (idx C h)) 0 + 1 < m → pb C (entN C (idx C h)) 0 < n → FULL C pg lg → pb C 1 0 = 0 → RI pg lg (C, wt, al, 0) Cm Dr En Ib Bd Mn q Cg → G9 = mH pg lg (sMA lg h n (C, wt, al, 0)) → Vw x 6 (fun q => q ∈ [hm, r 0, r 1, r 2, r 3, r 4, r 5, r 6, r 7, r 8, r 9, r 10, r 11, r 13, r 14]) D true 0 0 [oM hm r 0 pg lg wt al 0 (C 0) (pF (C 0)) 0 an ch, aB cB (r 0) 65536 (Cm), aN cI (r 1) 256 (Dr), aN cI (r 2) 65536 (En), aN cI (r 3) 65536 (Ot), aZ cZ (r 4) 256 (Ib), aN cI (r 5) 256 (Bd), aN cI (r 6) 256 (Mn), aN cI (r 7) 23040 (q).1, aN cI (r 8) 23040 (q).2.1, aL cJ (r 9) 46080 (q).2.2.1, aL cJ (r 10) 92160 (q).2.2.2, aB cB (r 11) 48 T, aN cI (r 13) 256 (Ou), aN cI (r 14) 256 (Cg)] 85 [(0, .ref hm), (4, .int (iI 0)), (5, .int (iI ((h : Nat) : Int)))] [] := by
  intro m
  induction m with
  | zero => intro n C wt al Cm Dr En Ot Ib Bd Mn q Ou Cg ch hm9 hn9 hF hj hI hG; omega
  | succ m ih =>
    intro n C wt al Cm Dr En Ot Ib Bd Mn q Ou Cg ch hm9 hn9 hF hj hI hG
    obtain ⟨hA, hal, hR, hGc⟩ := id hI
    replace hal : in32 al := hal
    replace hR : RM C lg Dr En Ib Bd Mn q := hR
    have h14 := hF.1.2.2.2
    obtain ⟨n, rfl⟩ : ∃ n', n = n' + 1 := ⟨n - 1, by omega⟩
    refine v_iload (n := 87) k dX5_remove_85 rfl rfl ?_
    refine v_if_ne (n := 90) (t := 108) k (⟨by omega, by omega⟩) dX5_remove_87 (by decide) rfl (fun c_87 => ?_) (fun c_87 => ?_)
    · exfalso; omega
    · refine v_aload_n (n := 91) k dX5_remove_90 rfl rfl ?_
      refine v_iload (n := 93) k dX5_remove_91 rfl rfl ?_
      refine v_aload_n (n := 94) k dX5_remove_93 rfl rfl ?_
      refine v_get (n := 97) k ciX5 0 7 (by decide) fl_X5_95 rfl rfl dX5_remove_94 rfl ?_
      refine v_rdSi (n := 100) k [] (z_X5_first (h := h) (n := C 0) rfl rfl hh (by omega)) miX5_first ml_X5_143 (by decide) (by decide) rfl (by decide) rfl rfl (Nat.le_of_ble_eq_true rfl) ⟨Nat.zero_le _, Nat.zero_le _⟩ dX5_remove_97 rfl ?_
      refine v_upV (n := 103) k [0, 1, 2, 3, 4, 5, 6, 7, 8, 9, 10, 11, 13, 14] 0 (z_X5_merges (h := h) hF hj hA hal hGc hR hh rfl) miX5_merges ml_X5_202 (by decide) (by decide) rfl (by decide) rfl rfl rfl rfl (Nat.le_of_ble_eq_true rfl) ⟨Nat.zero_le _, Nat.zero_le _⟩ dX5_remove_100 rfl ?_
      rintro _ _ ⟨a9, s9, Cm9, Dr9, En9, Ot9, Ib9, Bd9, Mn9, q9, Ou9, Cg9, ch9, hst, rfl, hI9, rfl⟩
      dsimp only [wput, List.set, Option.toList, List.nil_append, List.cons_append]
      have hrun := mr_run hF hj hh hst
      have hin := mr_in hst
      refine v_istore (n := 105) k dX5_remove_103 rfl (by decide) rfl rfl ?_
      refine v_goto (t := 85) k dX5_remove_105 (by decide) ?_
      by_cases h0 : s9 = 0
      · subst h0
        obtain ⟨-, hu, hmu⟩ : (0 : Int) = 0 ∧ UPS a9 pg lg ∧ pb a9.1 (entN a9.1 (idx a9.1 h)) 0 + 1 = pb C (entN C (idx C h)) 0 := by
          rcases hrun with h9 | h9
          · exact h9
          · exact absurd rfl h9.in.2
        have hG9 : G9 = mH pg lg (sMA lg h n a9) := by rw [hG, ma_0 hst]
        obtain ⟨C9, wt9, al9, dn9⟩ := a9
        obtain ⟨u1, u2, u3, u4⟩ := hu
        have hd9 : dn9 = 0 := u2
        subst hd9
        replace u3 : pb C9 1 0 = 0 := u3
        replace u4 : FULL C9 pg lg := u4
        replace hmu : pb C9 (entN C9 (idx C9 h)) 0 + 1 = pb C (entN C (idx C h)) 0 := hmu
        exact ih n C9 wt9 al9 Cm9 Dr9 En9 Ot9 Ib9 Bd9 Mn9 q9 Ou9 Cg9 ch9 (by omega) (by omega) u4 u3 hI9 hG9
      · exact st_X5_removeB k hq hI9 (by
          rcases hin with h9 | h9 | h9
          · exact absurd h9 h0
          · subst h9
            refine Or.inl ⟨rfl, ?_⟩
            rw [hG, ma_4 hst]
            rfl
          · subst h9
            have h8 := ma_n (n := n) hst
            refine Or.inr ⟨rfl, ?_, ?_⟩
            · rcases hrun with ⟨h9, -⟩ | ⟨h9, -⟩ | ⟨-, h9⟩
              · exact absurd h9 (by decide)
              · exact absurd h9 (by decide)
              · rw [h9]; exact ⟨hF.1.1.2.2.1, rfl, hj, hF⟩
            · rw [hG]
              unfold mH
              rw [if_neg h8.2, h8.1]) 1 (by decide)
set_option maxHeartbeats 1000000 in
set_option maxRecDepth 20000 in
theorem z_X5_remove {D : va_G} {cI cB cJ cZ : ClassId} {hm : Nat} {r : Nat → Nat} {th : Int} {pg lg : Nat} {wt al dn : Int} {tp an ch : Nat} {T C : Nat → Nat} {Cm Dr En Ot : Nat → Nat} {Ib : Nat → Bool} {Bd Mn : Nat → Nat} {q : RQ} {Ou Cg : Nat → Nat} (hdn : dn = 0 ∨ dn = 1) (hU : dn = 0 → FULL C pg lg ∧ pb C 1 0 = 0) (hI : RI pg lg (C, wt, al, dn) Cm Dr En Ib Bd Mn q Cg) (htp : tp ≤ 48) (hT : ∀ j, T j < 256) : ∀ l, Up l yX5_remove cX5_remove 6 (some .int) ({ frames := 5, cells := 0, slots := 0, locals := 118 }) D (TY cI cB cJ cZ) [.ref hm] [oM hm r th pg lg wt al dn (C 0) (pF (C 0)) tp an ch, aB cB (r 0) 65536 (Cm), aN cI (r 1) 256 (Dr), aN cI (r 2) 65536 (En), aN cI (r 3) 65536 (Ot), aZ cZ (r 4) 256 (Ib), aN cI (r 5) 256 (Bd), aN cI (r 6) 256 (Mn), aN cI (r 7) 23040 (q).1, aN cI (r 8) 23040 (q).2.1, aL cJ (r 9) 46080 (q).2.2.1, aL cJ (r 10) 92160 (q).2.2.2, aB cB (r 11) 48 T, aN cI (r 13) 256 (Ou), aN cI (r 14) 256 (Cg)] (PSU cI cB cJ cZ hm r (rmT dn tp) pg lg an T (if rmT dn tp = 0 then rvF pg lg T tp (C, wt, al, dn) else (0, (C, wt, al, dn)))) := by
  intro l
  refine Up_of (by decide) (Nat.le_of_ble_eq_true rfl) (fun x k hq => ?_)
  refine v_aload_n (n := 1) k dX5_remove_0 rfl rfl ?_
  refine v_iconst (n := 2) k dX5_remove_1 rfl ?_
  refine v_put (n := 5) k ciX5 0 0 (by decide) fl_X5_1 rfl rfl (rfl) (rfl) (Nat.le_of_ble_eq_true rfl) dX5_remove_2 rfl ?_
  refine v_aload_n (n := 6) k dX5_remove_5 rfl rfl ?_
  refine v_get (n := 9) k ciX5 0 20 (by decide) fl_X5_172 rfl rfl dX5_remove_6 rfl ?_
  refine v_istore_n (n := 10) k dX5_remove_9 rfl (by decide) rfl rfl ?_
  refine v_aload_n (n := 11) k dX5_remove_10 rfl rfl ?_
  refine v_iconst (n := 12) k dX5_remove_11 rfl ?_
  refine v_put (n := 15) k ciX5 0 20 (by decide) fl_X5_172 rfl rfl (rfl) (rfl) (Nat.le_of_ble_eq_true rfl) dX5_remove_12 rfl ?_
  refine v_aload_n (n := 16) k dX5_remove_15 rfl rfl ?_
  refine v_get (n := 19) k ciX5 0 6 (by decide) fl_X5_81 rfl rfl dX5_remove_16 rfl ?_
  refine v_if_eq (n := 22) (t := 28) k (⟨by omega, by omega⟩) dX5_remove_19 (by decide) rfl (fun c_19 => ?_) (fun c_19 => ?_)
  · have hd0 : dn = 0 := by omega
    subst hd0
    refine v_iload_n (n := 29) k dX5_remove_28 rfl rfl ?_
    refine v_iconst (n := 30) k dX5_remove_29 rfl ?_
    refine v_icmp_lt (n := 33) (t := 39) k (⟨by omega, by omega⟩) (⟨by omega, by omega⟩) dX5_remove_30 (by decide) rfl (fun c_30 => ?_) (fun c_30 => ?_)
    · have ht9 : rmT 0 tp = 2 := (if_neg (by decide)).trans (if_pos (by omega))
      refine v_aload_n (n := 40) k dX5_remove_39 rfl rfl ?_
      refine v_iconst (n := 41) k dX5_remove_40 rfl ?_
      refine v_upV (n := 44) k [0] 0 (z_X5_throwing) miX5_throwing ml_X5_175 (by decide) (by decide) rfl (by decide) rfl rfl rfl rfl (Nat.le_of_ble_eq_true rfl) ⟨Nat.zero_le _, Nat.zero_le _⟩ dX5_remove_41 rfl ?_
      rintro _ _ ⟨rfl, rfl⟩
      dsimp only [wput, List.set, Option.toList, List.nil_append, List.cons_append]
      refine v_iretU k hq ?_ rfl dX5_remove_44
      refine PSU_mk ⟨(C, wt, al, 0), 0, Cm, Dr, En, Ot, Ib, Bd, Mn, q, Ou, Cg, ch, ?_, rfl, hI, ?_⟩
      · rw [ht9]; exact if_neg (by decide)
      · rw [ht9]
    · refine v_iload_n (n := 34) k dX5_remove_33 rfl rfl ?_
      refine v_bipush (n := 36) k dX5_remove_34 (by decide) rfl ?_
      refine v_icmp_le (n := 39) (t := 45) k (⟨by omega, by omega⟩) (⟨by omega, by omega⟩) dX5_remove_36 (by decide) rfl (fun c_36 => ?_) (fun c_36 => ?_)
      · have ht9 : rmT 0 tp = 0 := (if_neg (by decide)).trans (if_neg (by omega))
        obtain ⟨hF, hj⟩ := hU rfl
        obtain ⟨w1, w2, w3, w4, w5, w6, w7⟩ := id hF.1.1
        have h14 := hF.1.2.2.2
        have h15 : 2 ^ C 0 ≤ 2 ^ 14 := Nat.pow_le_pow_right (by decide) h14
        have h15b : (2 : Nat) ^ 14 = 16384 := by decide
        have h16 : 0 < 2 ^ C 0 := Nat.pow_pos (by decide)
        have hpf := pF_le15 w4
        obtain ⟨hA, hal, hR, hGc⟩ := id hI
        replace hal : in32 al := hal
        replace hA : AGP pg Cm C := hA
        replace hR : RM C lg Dr En Ib Bd Mn q := hR
        have hh := hsh_lt T 0 tp
        have hx := idx_lt (C := C) hh w4
        have hen : En (hsh T 0 tp / 2 ^ (16 - C 0)) = entN C (idx C (hsh T 0 tp)) := hR.2.1 _ hx
        obtain ⟨p1, p2, p3, p4, p5⟩ := hF.2.1 _ hx
        have hRB := hR.rb hF hx
        have hm84 := hR.2.2.2.2.2.2.2.1
        have hmp := hm84 (entN C (idx C (hsh T 0 tp)))
        have hQ := hR.2.2.2.2.2.2.2.2
        have hfd := fd_eq hRB T tp
        have hbd := hRB.1
        have hbl := hR.2.2.2.2.2.2.1 (entN C (idx C (hsh T 0 tp)))
        rw [ht9, if_pos rfl] at hq
        refine v_aload_n (n := 46) k dX5_remove_45 rfl rfl ?_
        refine v_iload_n (n := 47) k dX5_remove_46 rfl rfl ?_
        refine v_rdVi (n := 50) k [0, 3, 12] 0 (z_X5_bucketOf (z := tp) rfl (by omega) (by omega) hT) miX5_bucketOf ml_X5_178 (by decide) (by decide) rfl (by decide) rfl rfl rfl rfl (Nat.le_of_ble_eq_true rfl) ⟨Nat.zero_le _, Nat.zero_le _⟩ dX5_remove_47 rfl ?_
        rw [hen]
        refine v_istore_n (n := 51) k dX5_remove_50 rfl (by decide) rfl rfl ?_
        refine v_aload_n (n := 52) k dX5_remove_51 rfl rfl ?_
        refine v_iload_n (n := 53) k dX5_remove_52 rfl rfl ?_
        refine v_iload_n (n := 54) k dX5_remove_53 rfl rfl ?_
        refine v_rdVi (n := 57) k [0, 7, 8, 10, 12] 0 (z_X5_find (p := entN C (idx C (hsh T 0 tp))) (z := tp) rfl rfl (by omega) (by omega) hmp hQ hT) miX5_find ml_X5_169 (by decide) (by decide) rfl (by decide) rfl rfl rfl rfl (Nat.le_of_ble_eq_true rfl) ⟨Nat.zero_le _, Nat.zero_le _⟩ dX5_remove_54 rfl ?_
        rw [hfd]
        have hfi := fdI_c (o := fnd C (entN C (idx C (hsh T 0 tp))) T tp)
        have hfb : in32 (fdI (fnd C (entN C (idx C (hsh T 0 tp))) T tp)) := fdI_in (n := pb C (entN C (idx C (hsh T 0 tp))) 1) (by have := p4.count; have := p4.2.2; omega) (fun r hr => fnd_lt hr)
        generalize fdI (fnd C (entN C (idx C (hsh T 0 tp))) T tp) = Y at hfi hfb ⊢
        refine v_istore_n (n := 58) k dX5_remove_57 rfl (by decide) rfl rfl ?_
        refine v_iload_n (n := 59) k dX5_remove_58 rfl rfl ?_
        refine v_iconst (n := 60) k dX5_remove_59 rfl ?_
        refine v_icmp_ne (n := 63) (t := 65) k (hfb) (⟨by decide, by decide⟩) dX5_remove_60 (by decide) rfl (fun c_60 => ?_) (fun c_60 => ?_)
        · obtain ⟨r9, hr9, hY⟩ : ∃ r9, fnd C (entN C (idx C (hsh T 0 tp))) T tp = some r9 ∧ Y = ((r9 : Nat) : Int) := by
            rcases hfi with h9 | ⟨-, h9⟩
            · exact h9
            · exact absurd h9 c_60
          subst hY
          clear hfi
          have hrl := fnd_lt hr9
          have hmn := hRB.2.1
          refine v_aload_n (n := 66) k dX5_remove_65 rfl rfl ?_
          refine v_iload_n (n := 67) k dX5_remove_66 rfl rfl ?_
          refine v_iload_n (n := 68) k dX5_remove_67 rfl rfl ?_
          refine v_upV (n := 71) k [0, 7, 8, 9, 10, 11] 0 (z_X5_drop (p := entN C (idx C (hsh T 0 tp))) (a := r9) rfl rfl (by omega) (by omega) hmp) miX5_drop ml_X5_166 (by decide) (by decide) rfl (by decide) rfl rfl rfl rfl (Nat.le_of_ble_eq_true rfl) ⟨Nat.zero_le _, Nat.zero_le _⟩ dX5_remove_68 rfl ?_
          rintro _ _ ⟨rfl, rfl⟩
          dsimp only [wput, List.set, Option.toList, List.nil_append, List.cons_append]
          have hrs2 : rcs (dpQ q (90 * entN C (idx C (hsh T 0 tp)) + r9) (Mn (entN C (idx C (hsh T 0 tp))) - 1 - r9)) (entN C (idx C (hsh T 0 tp))) ((upN Mn (entN C (idx C (hsh T 0 tp))) (Mn (entN C (idx C (hsh T 0 tp))) - 1)) (entN C (idx C (hsh T 0 tp)))) = wL C (entN C (idx C (hsh T 0 tp))) T tp := by rw [upN_at, if_pos rfl, rcs_drop hQ (by omega), RB_rcs hRB, wL_some hr9]
          have hB2 : BUT (entN C (idx C (hsh T 0 tp))) Mn q (upN Mn (entN C (idx C (hsh T 0 tp))) (Mn (entN C (idx C (hsh T 0 tp))) - 1)) (dpQ q (90 * entN C (idx C (hsh T 0 tp)) + r9) (Mn (entN C (idx C (hsh T 0 tp))) - 1 - r9)) := ⟨QB_dp hQ _ _, fun j hj9 => by rw [upN_at, if_neg hj9], fun j t hj9 ht => by rw [rcB_dp hQ, if_neg (by omega)]⟩
          have hbk : bkM Bd (upN Mn (entN C (idx C (hsh T 0 tp))) (Mn (entN C (idx C (hsh T 0 tp))) - 1)) (dpQ q (90 * entN C (idx C (hsh T 0 tp)) + r9) (Mn (entN C (idx C (hsh T 0 tp))) - 1 - r9)) (entN C (idx C (hsh T 0 tp))) = bpg (pb C (entN C (idx C (hsh T 0 tp))) 0) (wL C (entN C (idx C (hsh T 0 tp))) T tp) := by
            unfold bkM
            rw [hrs2, hbd]
          have hv9 : ∀ r ∈ rcs (dpQ q (90 * entN C (idx C (hsh T 0 tp)) + r9) (Mn (entN C (idx C (hsh T 0 tp))) - 1 - r9)) (entN C (idx C (hsh T 0 tp))) ((upN Mn (entN C (idx C (hsh T 0 tp))) (Mn (entN C (idx C (hsh T 0 tp))) - 1)) (entN C (idx C (hsh T 0 tp)))), VR r := by
            rw [hrs2]
            exact VR_recS p4 (Nat.le_refl _)
          have hl9 : (rcs (dpQ q (90 * entN C (idx C (hsh T 0 tp)) + r9) (Mn (entN C (idx C (hsh T 0 tp))) - 1 - r9)) (entN C (idx C (hsh T 0 tp))) ((upN Mn (entN C (idx C (hsh T 0 tp))) (Mn (entN C (idx C (hsh T 0 tp))) - 1)) (entN C (idx C (hsh T 0 tp))))).flatten.length ≤ 252 := by
            rw [hrs2]
            exact Nat.le_trans (recS_le p4) p4.2.2
          have hm9 : ∀ j, (upN Mn (entN C (idx C (hsh T 0 tp))) (Mn (entN C (idx C (hsh T 0 tp))) - 1)) j ≤ 84 := by
            intro j
            rw [upN_at]
            split
            · omega
            · exact hm84 j
          have hb9 : ∀ j, bkM Bd (upN Mn (entN C (idx C (hsh T 0 tp))) (Mn (entN C (idx C (hsh T 0 tp))) - 1)) (dpQ q (90 * entN C (idx C (hsh T 0 tp)) + r9) (Mn (entN C (idx C (hsh T 0 tp))) - 1 - r9)) (entN C (idx C (hsh T 0 tp))) j < 256 := by
            have h3 := len3 hv9
            rw [hbk]
            exact bpg_lt (by omega) (by rw [← hrs2]; omega) (by rw [← hrs2]; omega) (recS_lt w3)
          obtain ⟨hF2, hR2⟩ := wr_rm hF hx rfl hR hB2 hv9 hl9 hb9 hm9
          have hG2 : GB Dr En Bd (upN Mn (entN C (idx C (hsh T 0 tp))) (Mn (entN C (idx C (hsh T 0 tp))) - 1)) (dpQ q (90 * entN C (idx C (hsh T 0 tp)) + r9) (Mn (entN C (idx C (hsh T 0 tp))) - 1 - r9)) := hR2.2.2.2.2
          have hbt9 : btM (dpQ q (90 * entN C (idx C (hsh T 0 tp)) + r9) (Mn (entN C (idx C (hsh T 0 tp))) - 1 - r9)) (entN C (idx C (hsh T 0 tp))) ((upN Mn (entN C (idx C (hsh T 0 tp))) (Mn (entN C (idx C (hsh T 0 tp))) - 1)) (entN C (idx C (hsh T 0 tp)))) ≤ 252 := by rw [← rcs_fl]; exact hl9
          refine v_aload_n (n := 72) k dX5_remove_71 rfl rfl ?_
          refine v_iload_n (n := 73) k dX5_remove_72 rfl rfl ?_
          refine v_upV (n := 76) k [0, 1, 2, 3, 5, 6, 7, 8, 9, 10, 11, 13] 0 (z_X5_wroteBucket (p := entN C (idx C (hsh T 0 tp))) (C := C) rfl (by omega) (by omega) (by omega) (by omega) hG2 (dfM_no hR.1 p3) hbt9 (fun j _ => hb9 j) hA hal (fun a9 h9 => by
  rcases wr_run hF hj hF2 (by omega) h9 with ⟨-, -, h1⟩ | ⟨h1, -⟩
  · rw [h1]
    have e9 : wrp C (entN C (idx C (hsh T 0 tp))) (bkM Bd (upN Mn (entN C (idx C (hsh T 0 tp))) (Mn (entN C (idx C (hsh T 0 tp))) - 1)) (dpQ q (90 * entN C (idx C (hsh T 0 tp)) + r9) (Mn (entN C (idx C (hsh T 0 tp))) - 1 - r9)) (entN C (idx C (hsh T 0 tp)))) 0 = C 0 := by
      have := wrp_out (C := C) (f := bkM Bd (upN Mn (entN C (idx C (hsh T 0 tp))) (Mn (entN C (idx C (hsh T 0 tp))) - 1)) (dpQ q (90 * entN C (idx C (hsh T 0 tp)) + r9) (Mn (entN C (idx C (hsh T 0 tp))) - 1 - r9)) (entN C (idx C (hsh T 0 tp)))) (p := entN C (idx C (hsh T 0 tp))) (q := 0) (i := 0) (by decide) (by omega)
      rw [pb0, pb0] at this
      exact this
    rw [e9]
    exact ⟨rfl, rfl, hR2⟩
  · cases h1) (fun a9 h9 => by
  rcases wr_run hF hj hF2 (by omega) h9 with ⟨h1, -⟩ | ⟨-, h1, -⟩
  · cases h1
  · exact h1.2.2.2.ok h1.1)) miX5_wroteBucket ml_X5_196 (by decide) (by decide) rfl (by decide) rfl rfl rfl rfl (Nat.le_of_ble_eq_true rfl) ⟨Nat.zero_le _, Nat.zero_le _⟩ dX5_remove_73 rfl ?_
          rintro _ _ ⟨a9, s9, Cm9, Ou9, Dr9, En9, Ib9, Bd9, Mn9, q9, hst, rfl, hA9, hal9, hRM9, rfl⟩
          dsimp only [wput, List.set, Option.toList, List.nil_append, List.cons_append]
          rw [hbk] at hst
          refine v_istore (n := 78) k dX5_remove_76 rfl (by decide) rfl rfl ?_
          refine v_aload_n (n := 79) k dX5_remove_78 rfl rfl ?_
          refine v_iload_n (n := 80) k dX5_remove_79 rfl rfl ?_
          refine v_rdVi (n := 83) k [0, 12] 0 (z_X5_tapeHash (z := tp) rfl (by omega) hT) miX5_tapeHash ml_X5_140 (by decide) (by decide) rfl (by decide) rfl rfl rfl rfl (Nat.le_of_ble_eq_true rfl) ⟨Nat.zero_le _, Nat.zero_le _⟩ dX5_remove_80 rfl ?_
          refine v_istore (n := 85) k dX5_remove_83 rfl (by decide) rfl rfl ?_
          have hrv : rvF pg lg T tp (C, wt, al, 0) = rmF pg lg (hsh T 0 tp) (entN C (idx C (hsh T 0 tp))) (bpg (pb C (entN C (idx C (hsh T 0 tp))) 0) (wL C (entN C (idx C (hsh T 0 tp))) T tp)) (C, wt, al, 0) := by
            unfold rvF
            rw [show fnd (C, wt, al, (0 : Int)).1 (entN (C, wt, al, (0 : Int)).1 (idx (C, wt, al, (0 : Int)).1 (hsh T 0 tp))) T tp = some r9 from hr9]
          refine v_lvf [(0, .ref hm), (4, .int (iI s9)), (5, .int (iI ((hsh T 0 tp : Nat) : Int)))] ⟨rfl, rfl, rfl, trivial⟩ ?_
          rw [hbk] at hF2
          rcases stC_cs hst with ⟨h0, hs⟩ | ⟨h0, hs⟩
          · subst h0
            rcases wr_run hF hj hF2 (by omega) hs with ⟨-, hu, hu2⟩ | ⟨h1, -⟩
            · have hG9 := hrv.trans (rmF_0 hst)
              obtain ⟨C9, wt9, al9, dn9⟩ := a9
              obtain ⟨u1, u2, u3, u4⟩ := hu
              have hd9 : dn9 = 0 := u2
              subst hd9
              replace u3 : pb C9 1 0 = 0 := u3
              replace u4 : FULL C9 pg lg := u4
              have h149 := u4.1.2.2.2
              have hp9 := (u4.2.1 _ (idx_lt (C := C9) hh u4.1.1.2.2.2.1)).2.2.2.2
              exact lp_X5_removeM k hq hh 32 64 C9 wt9 al9 Cm9 Dr9 En9 Ot Ib9 Bd9 Mn9 q9 Ou9 Cg ch (by omega) (by omega) u4 u3 ⟨hA9, hal9, hRM9, hGc⟩ hG9
            · cases h1
          · subst h0
            exact st_X5_removeB k hq (a := a9) ⟨hA9, hal9, hRM9, hGc⟩ (Or.inl ⟨rfl, hrv.trans (rmF_s hst (by decide))⟩) 1 (by decide)
        · have hfn : fnd C (entN C (idx C (hsh T 0 tp))) T tp = none := by
            rcases hfi with ⟨r9, -, h9⟩ | ⟨h9, -⟩
            · omega
            · exact h9
          refine v_iconst (n := 64) k dX5_remove_63 rfl ?_
          refine v_iretU k hq ?_ rfl dX5_remove_64
          refine PSU_mk ⟨(C, wt, al, 0), -1, Cm, Dr, En, Ot, Ib, Bd, Mn, q, Ou, Cg, ch, ?_, rfl, hI, rfl⟩
          unfold rvF
          rw [show fnd (C, wt, al, (0 : Int)).1 (entN (C, wt, al, (0 : Int)).1 (idx (C, wt, al, (0 : Int)).1 (hsh T 0 tp))) T tp = none from hfn]
      · have ht9 : rmT 0 tp = 2 := (if_neg (by decide)).trans (if_pos (by omega))
        refine v_aload_n (n := 40) k dX5_remove_39 rfl rfl ?_
        refine v_iconst (n := 41) k dX5_remove_40 rfl ?_
        refine v_upV (n := 44) k [0] 0 (z_X5_throwing) miX5_throwing ml_X5_175 (by decide) (by decide) rfl (by decide) rfl rfl rfl rfl (Nat.le_of_ble_eq_true rfl) ⟨Nat.zero_le _, Nat.zero_le _⟩ dX5_remove_41 rfl ?_
        rintro _ _ ⟨rfl, rfl⟩
        dsimp only [wput, List.set, Option.toList, List.nil_append, List.cons_append]
        refine v_iretU k hq ?_ rfl dX5_remove_44
        refine PSU_mk ⟨(C, wt, al, 0), 0, Cm, Dr, En, Ot, Ib, Bd, Mn, q, Ou, Cg, ch, ?_, rfl, hI, ?_⟩
        · rw [ht9]; exact if_neg (by decide)
        · rw [ht9]
  · have ht9 : rmT dn tp = 1 := if_pos (by omega)
    refine v_aload_n (n := 23) k dX5_remove_22 rfl rfl ?_
    refine v_iconst (n := 24) k dX5_remove_23 rfl ?_
    refine v_upV (n := 27) k [0] 0 (z_X5_throwing) miX5_throwing ml_X5_175 (by decide) (by decide) rfl (by decide) rfl rfl rfl rfl (Nat.le_of_ble_eq_true rfl) ⟨Nat.zero_le _, Nat.zero_le _⟩ dX5_remove_24 rfl ?_
    rintro _ _ ⟨rfl, rfl⟩
    dsimp only [wput, List.set, Option.toList, List.nil_append, List.cons_append]
    refine v_iretU k hq ?_ rfl dX5_remove_27
    refine PSU_mk ⟨(C, wt, al, dn), 0, Cm, Dr, En, Ot, Ib, Bd, Mn, q, Ou, Cg, ch, ?_, rfl, hI, ?_⟩
    · rw [ht9]; exact if_neg (by decide)
    · rw [ht9]
