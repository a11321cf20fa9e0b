theorem recL_split (C : Nat → Nat) (p s : Nat) : recL C p s = pb C p s :: pb C p (s + 1) :: ((List.range (pb C p s)).map (fun j => pb C p (s + 2 + j)) ++ (List.range (pb C p (s + 1))).map (fun j => pb C p (s + 2 + pb C p s + j))) := by
  unfold recL rsz
  rw [List.range_add, List.range_add, List.map_append, List.map_append, List.map_map, List.map_map, show List.range 2 = [0, 1] from rfl]
  simp only [List.map_cons, List.map_nil, List.cons_append, List.nil_append, Nat.add_zero]
  congr 2
  congr 1
  · exact List.map_congr_left (fun j _ => by show pb C p (s + (2 + j)) = _; rw [Nat.add_assoc])
  · exact List.map_congr_left (fun j _ => by show pb C p (s + (2 + pb C p s + j)) = _; congr 1; omega)
/-- the packed bytes so far: j of them, from place s of page p -/
def KI (K0 K : Nat → Int64) (b c : Nat) (F : Nat → Nat) (j : Nat) : Prop := (∀ i, (i < b ∨ b + c ≤ i) → K i = K0 i) ∧ ∀ t, t < 8 * c → by8 (K (b + t / 8)) (t % 8) = if t < j then F t else 0
theorem KI.step {K0 K : Nat → Int64} {b c : Nat} {F : Nat → Nat} {j v : Nat} (h : KI K0 K b c F j) (hj : j < 8 * c) (hv : v < 256) (hF : F j = v) : KI K0 (vp_updL K (b + j / 8) (K (b + j / 8) ||| ((iI ((v : Nat) : Int)).toInt64 <<< ((iI (8 * ((j % 8 : Nat) : Int))).toInt64 &&& 63)))) b c F (j + 1) := by
  have e8 : (8 : Int) * ((j % 8 : Nat) : Int) = ((8 * (j % 8) : Nat) : Int) := by omega
  rw [e8]
  refine ⟨fun i hi => ?_, fun t ht => ?_⟩
  · unfold vp_updL
    rw [if_neg (by omega)]
    exact h.1 i hi
  · unfold vp_updL
    by_cases e : t / 8 = j / 8
    · rw [if_pos (by omega), by8_or, by8_shl hv (by omega) (by omega)]
      have h9 := h.2 t ht
      rw [e] at h9
      rw [h9]
      by_cases e2 : t = j
      · subst e2
        rw [if_neg (by omega), if_pos rfl, if_pos (by omega), hF, Nat.zero_or]
      · rw [if_neg (show ¬ t % 8 = j % 8 by omega), Nat.or_zero]
        by_cases e3 : t < j
        · rw [if_pos e3, if_pos (by omega)]
        · rw [if_neg e3, if_neg (by omega)]
    · rw [if_neg (by omega), h.2 t ht]
      by_cases e3 : t < j
      · rw [if_pos e3, if_pos (by omega)]
      · rw [if_neg e3, if_neg (by omega)]
theorem KI.z2 (K : Nat → Int64) (b : Nat) (F : Nat → Nat) : KI K (vp_updL (vp_updL K (b + 0) 0) (b + 1) 0) b 2 F 0 := by
  refine ⟨fun i hi => ?_, fun t ht => ?_⟩
  · unfold vp_updL
    rw [if_neg (by omega), if_neg (by omega)]
  · rw [if_neg (by omega)]
    unfold vp_updL
    rcases (by omega : t / 8 = 0 ∨ t / 8 = 1) with e | e
    · rw [e, if_neg (by omega), if_pos rfl, by8_0]
    · rw [e, if_pos rfl, by8_0]
theorem KI.z4 (K : Nat → Int64) (b : Nat) (F : Nat → Nat) : KI K (vp_updL (vp_updL (vp_updL (vp_updL K (b + 0) 0) (b + 1) 0) (b + 2) 0) (b + 3) 0) b 4 F 0 := by
  refine ⟨fun i hi => ?_, fun t ht => ?_⟩
  · unfold vp_updL
    rw [if_neg (by omega), if_neg (by omega), if_neg (by omega), if_neg (by omega)]
  · rw [if_neg (by omega)]
    unfold vp_updL
    rcases (by omega : t / 8 = 0 ∨ t / 8 = 1 ∨ t / 8 = 2 ∨ t / 8 = 3) with e | e | e | e
    · rw [e, if_neg (by omega), if_neg (by omega), if_neg (by omega), if_pos rfl, by8_0]
    · rw [e, if_neg (by omega), if_neg (by omega), if_pos rfl, by8_0]
    · rw [e, if_neg (by omega), if_pos rfl, by8_0]
    · rw [e, if_pos rfl, by8_0]
/-- the reference's arrays hold bucket p of the disk -/
def RB (C : Nat → Nat) (p : Nat) (Bd Mn : Nat → Nat) (q : RQ) : Prop := Bd p = pb C p 0 ∧ Mn p = pb C p 1 ∧ ∀ r, r < pb C p 1 → rcB q (90 * p + r) = recL C p (rst C p r)
/-- records so far -/
def BI (q0 q : RQ) (C : Nat → Nat) (p i : Nat) : Prop := QB q ∧ (∀ y, (y < 90 * p ∨ 90 * p + i ≤ y) → rcB q y = rcB q0 y) ∧ ∀ r, r < i → rcB q (90 * p + r) = recL C p (rst C p r)
theorem rcB_keep {q : RQ} (hQ : QB q) {K V : Nat → Int64} {u y ks vs : Nat} {F G : Nat → Nat} {a b : Nat} (hK : KI q.2.2.1 K (2 * u) 2 F a) (hV : KI q.2.2.2 V (4 * u) 4 G b) (h : y ≠ u) : rcB (upN q.1 u ks, upN q.2.1 u vs, K, V) y = rcB q y := by
  have h9 := hQ y
  refine rcB_ext (by show upN q.1 u ks y = _; rw [upN_at, if_neg h]) (by show upN q.2.1 u vs y = _; rw [upN_at, if_neg h]) (fun j hj => ?_) (fun j hj => ?_)
  · show by8 (K (2 * y + j / 8)) _ = _
    rw [hK.1 _ (by omega)]
    rfl
  · show by8 (V (4 * y + j / 8)) _ = _
    rw [hV.1 _ (by omega)]
    rfl
theorem rcB_new {q : RQ} {K V : Nat → Int64} {C : Nat → Nat} {p s u : Nat} (hK : KI q.2.2.1 K (2 * u) 2 (fun j => pb C p (s + 2 + j)) (pb C p s)) (hV : KI q.2.2.2 V (4 * u) 4 (fun j => pb C p (s + 2 + pb C p s + j)) (pb C p (s + 1))) (h1 : pb C p s ≤ 16) (h2 : pb C p (s + 1) ≤ 32) : rcB (upN q.1 u (pb C p s), upN q.2.1 u (pb C p (s + 1)), K, V) u = recL C p s := by
  rw [recL_split]
  unfold rcB
  have e1 : upN q.1 u (pb C p s) u = pb C p s := if_pos rfl
  have e2 : upN q.2.1 u (pb C p (s + 1)) u = pb C p (s + 1) := if_pos rfl
  show upN q.1 u (pb C p s) u :: upN q.2.1 u (pb C p (s + 1)) u :: ((List.range (upN q.1 u (pb C p s) u)).map _ ++ (List.range (upN q.2.1 u (pb C p (s + 1)) u)).map _) = _
  rw [e1, e2]
  congr 2
  congr 1
  · exact List.map_congr_left (fun j hj => by
      have hj' := List.mem_range.mp hj
      show by8 (K (2 * u + j / 8)) (j % 8) = _
      rw [hK.2 j (by omega), if_pos hj'])
  · exact List.map_congr_left (fun j hj => by
      have hj' := List.mem_range.mp hj
      show by8 (V (4 * u + j / 8)) (j % 8) = _
      rw [hV.2 j (by omega), if_pos hj'])
theorem BI.step {q0 q : RQ} {C : Nat → Nat} {p i : Nat} {K V : Nat → Int64} (h : BI q0 q C p i) (hK : KI q.2.2.1 K (2 * (90 * p + i)) 2 (fun j => pb C p (rst C p i + 2 + j)) (pb C p (rst C p i))) (hV : KI q.2.2.2 V (4 * (90 * p + i)) 4 (fun j => pb C p (rst C p i + 2 + pb C p (rst C p i) + j)) (pb C p (rst C p i + 1))) (h1 : pb C p (rst C p i) ≤ 16) (h2 : pb C p (rst C p i + 1) ≤ 32) : BI q0 (upN q.1 (90 * p + i) (pb C p (rst C p i)), upN q.2.1 (90 * p + i) (pb C p (rst C p i + 1)), K, V) C p (i + 1) := by
  refine ⟨fun y => ?_, fun y hy => ?_, fun r hr => ?_⟩
  · show upN q.1 _ _ y ≤ 16 ∧ upN q.2.1 _ _ y ≤ 32
    rw [upN_at, upN_at]
    split
    · exact ⟨h1, h2⟩
    · exact h.1 y
  · rw [rcB_keep h.1 hK hV (by omega)]
    exact h.2.1 y (by omega)
  · by_cases e : r = i
    · subst e
      exact rcB_new hK hV h1 h2
    · rw [rcB_keep h.1 hK hV (by omega)]
      exact h.2.2 r (by omega)
set_option maxHeartbeats 1000000 in
set_option maxRecDepth 20000 in
theorem lp_X5_bucket_k {D : va_G} {cI cB cJ cZ : ClassId} {x : Kx} {hm : Nat} {r : Nat → Nat} {th : Int} {pg lg : Nat} {wt al dn : Int} {dp dm tp an ch : Nat} {Cm Bd Mn : Nat → Nat} {Ib : Nat → Bool} {Ks Vs : Nat → Nat} {V : Nat → Int64} {K0 : Nat → Int64} {P R X : Int} {p u s z : Nat} {C : Nat → Nat} (k : Kf x cX5_bucket 6 yX5_bucket.cls none D (TY cI cB cJ cZ) ({ frames := 1, cells := 0, slots := 0, locals := 22 })) {A : Nat → Prop} (hP : P = (p : Int)) (hp : p < pg) (hg : pg ≤ 255) (hA : AGP pg Cm C) (hC : ∀ j, C j < 256) (hX : X = (u : Int)) (hu : u < 23040) (hz : Ks u = z) (hz1 : z ≤ 16) (hs : s + z ≤ 256) (hk9 : ∀ K : Nat → Int64, KI K0 K (2 * u) 2 (fun j => pb C p (s + j)) z → Vw x 6 A D true 0 0 [oM hm r th pg lg wt al dn dp dm tp an ch, aB cB (r 0) 65536 Cm, aZ cZ (r 4) 256 Ib, aN cI (r 5) 256 Bd, aN cI (r 6) 256 Mn, aN cI (r 7) 23040 (Ks), aN cI (r 8) 23040 (Vs), aL cJ (r 9) 46080 K, aL cJ (r 10) 92160 V] 198 [(0, .ref hm), (1, .int (iI P)), (2, .int (iI ((s + z : Nat) : Int))), (3, .int (iI R)), (4, .int (iI X)), (5, .int (iI (z : Int)))] []) : ∀ (m : Nat) (j : Nat) (S J : Int) (K : Nat → Int64), z < j + m → j ≤ z → J = (j : Int) → S = ((s + j : Nat) : Int) → KI K0 K (2 * u) 2 (fun j => pb C p (s + j)) j → Vw x 6 A D true 0 0 [oM hm r th pg lg wt al dn dp dm tp an ch, aB cB (r 0) 65536 Cm, aZ cZ (r 4) 256 Ib, aN cI (r 5) 256 Bd, aN cI (r 6) 256 Mn, aN cI (r 7) 23040 (Ks), aN cI (r 8) 23040 (Vs), aL cJ (r 9) 46080 K, aL cJ (r 10) 92160 V] 143 [(0, .ref hm), (1, .int (iI P)), (2, .int (iI S)), (3, .int (iI R)), (4, .int (iI X)), (5, .int (iI J))] [] := by
  intro m
  induction m with
  | zero => intro j S J K hm9 hj e1 e2 hI; omega
  | succ m ih =>
    intro j S J K hm9 hj e1 e2 hI
    refine v_iload (n := 145) k dX5_bucket_143 rfl rfl ?_
    refine v_aload_n (n := 146) k dX5_bucket_145 rfl rfl ?_
    refine v_get (n := 149) k ciX5 0 15 (by decide) fl_X5_38 rfl rfl dX5_bucket_146 rfl ?_
    refine v_iload (n := 151) k dX5_bucket_149 rfl rfl ?_
    refine v_ialdN (n := 152) k 5 0 (u) rfl rfl (by omega) (by omega) (by omega) dX5_bucket_151 rfl ?_
    refine v_icmp_ge (n := 155) (t := 198) k (⟨by omega, by omega⟩) (⟨by omega, by omega⟩) dX5_bucket_152 (by decide) rfl (fun c_152 => ?_) (fun c_152 => ?_)
    · have e8 : j = z := by omega
      subst e8
      rw [e2, e1]
      exact hk9 _ hI
    · refine v_aload_n (n := 156) k dX5_bucket_155 rfl rfl ?_
      refine v_get (n := 159) k ciX5 0 17 (by decide) fl_X5_45 rfl rfl dX5_bucket_156 rfl ?_
      refine v_iconst (n := 160) k dX5_bucket_159 rfl ?_
      refine v_iload (n := 162) k dX5_bucket_160 rfl rfl ?_
      refine v_imul (n := 163) k dX5_bucket_162 rfl ?_
      refine v_iload (n := 165) k dX5_bucket_163 rfl rfl ?_
      refine v_bipush (n := 167) k dX5_bucket_165 (by decide) rfl ?_
      refine v_idiv (n := 168) k (((j / 8 : Nat) : Int)) (ax_ne0 (by omega) (by omega)) (ax_div e1 rfl (by omega) (by omega) (by omega)) dX5_bucket_167 rfl ?_
      refine v_iadd (n := 169) k dX5_bucket_168 rfl ?_
      refine v_dup2 (n := 170) k rfl rfl dX5_bucket_169 rfl ?_
      refine v_laldN (n := 171) k 7 2 (2 * u + j / 8) rfl rfl (by omega) (by omega) (by omega) dX5_bucket_170 rfl ?_
      refine v_aload_n (n := 172) k dX5_bucket_171 rfl rfl ?_
      refine v_iload_n (n := 173) k dX5_bucket_172 rfl rfl ?_
      refine v_iload_n (n := 174) k dX5_bucket_173 rfl rfl ?_
      refine v_rdVi (n := 177) k [0, 1] 0 (z_X5_at (p := p) (i := s + j) hP e2 hp (by omega) hg hA) miX5_at ml_X5_91 (by decide) (by decide) rfl (by decide) rfl rfl rfl rfl (Nat.le_of_ble_eq_true rfl) ⟨Nat.zero_le _, Nat.zero_le _⟩ dX5_bucket_174 rfl ?_
      refine v_i2l (n := 178) k dX5_bucket_177 rfl ?_
      refine v_bipush (n := 180) k dX5_bucket_178 (by decide) rfl ?_
      refine v_iload (n := 182) k dX5_bucket_180 rfl rfl ?_
      refine v_bipush (n := 184) k dX5_bucket_182 (by decide) rfl ?_
      refine v_irem (n := 185) k (((j % 8 : Nat) : Int)) (ax_ne0 (by omega) (by omega)) (ax_rem e1 rfl (by omega) (by omega) (by omega)) dX5_bucket_184 rfl ?_
      refine v_imul (n := 186) k dX5_bucket_185 rfl ?_
      refine v_lshl (n := 187) k dX5_bucket_186 rfl ?_
      refine v_lor (n := 188) k dX5_bucket_187 rfl ?_
      refine v_lastN (n := 189) k 7 2 (2 * u + j / 8) rfl rfl (by omega) (by omega) (by omega)  dX5_bucket_188 rfl ?_
      refine v_iinc (n := 192) k dX5_bucket_189 rfl (by decide) rfl rfl rfl ?_
      refine v_iinc (n := 195) k dX5_bucket_192 rfl (by decide) rfl rfl rfl ?_
      refine v_goto (t := 143) k dX5_bucket_195 (by decide) ?_
      exact ih (j + 1) _ _ _ (by omega) (by omega) (by omega) (by omega) (hI.step (by omega) (hC _) rfl)
set_option maxHeartbeats 1000000 in
set_option maxRecDepth 20000 in
theorem lp_X5_bucket_v {D : va_G} {cI cB cJ cZ : ClassId} {x : Kx} {hm : Nat} {r : Nat → Nat} {th : Int} {pg lg : Nat} {wt al dn : Int} {dp dm tp an ch : Nat} {Cm Bd Mn : Nat → Nat} {Ib : Nat → Bool} {Ks Vs : Nat → Nat} {K : Nat → Int64} {V0 : Nat → Int64} {P R X : Int} {p u s z : Nat} {C : Nat → Nat} (k : Kf x cX5_bucket 6 yX5_bucket.cls none D (TY cI cB cJ cZ) ({ frames := 1, cells := 0, slots := 0, locals := 22 })) {A : Nat → Prop} (hP : P = (p : Int)) (hp : p < pg) (hg : pg ≤ 255) (hA : AGP pg Cm C) (hC : ∀ j, C j < 256) (hX : X = (u : Int)) (hu : u < 23040) (hz : Vs u = z) (hz1 : z ≤ 32) (hs : s + z ≤ 256) (hk9 : ∀ V : Nat → Int64, KI V0 V (4 * u) 4 (fun j => pb C p (s + j)) z → Vw x 6 A D true 0 0 [oM hm r th pg lg wt al dn dp dm tp an ch, aB cB (r 0) 65536 Cm, aZ cZ (r 4) 256 Ib, aN cI (r 5) 256 Bd, aN cI (r 6) 256 Mn, aN cI (r 7) 23040 (Ks), aN cI (r 8) 23040 (Vs), aL cJ (r 9) 46080 K, aL cJ (r 10) 92160 V] 256 [(0, .ref hm), (1, .int (iI P)), (2, .int (iI ((s + z : Nat) : Int))), (3, .int (iI R)), (4, .int (iI X)), (5, .int (iI (z : Int)))] []) : ∀ (m : Nat) (j : Nat) (S J : Int) (V : Nat → Int64), z < j + m → j ≤ z → J = (j : Int) → S = ((s + j : Nat) : Int) → KI V0 V (4 * u) 4 (fun j => pb C p (s + j)) j → Vw x 6 A D true 0 0 [oM hm r th pg lg wt al dn dp dm tp an ch, aB cB (r 0) 65536 Cm, aZ cZ (r 4) 256 Ib, aN cI (r 5) 256 Bd, aN cI (r 6) 256 Mn, aN cI (r 7) 23040 (Ks), aN cI (r 8) 23040 (Vs), aL cJ (r 9) 46080 K, aL cJ (r 10) 92160 V] 201 [(0, .ref hm), (1, .int (iI P)), (2, .int (iI S)), (3, .int (iI R)), (4, .int (iI X)), (5, .int (iI J))] [] := by
  intro m
  induction m with
  | zero => intro j S J V hm9 hj e1 e2 hI; omega
  | succ m ih =>
    intro j S J V hm9 hj e1 e2 hI
    refine v_iload (n := 203) k dX5_bucket_201 rfl rfl ?_
    refine v_aload_n (n := 204) k dX5_bucket_203 rfl rfl ?_
    refine v_get (n := 207) k ciX5 0 16 (by decide) fl_X5_41 rfl rfl dX5_bucket_204 rfl ?_
    refine v_iload (n := 209) k dX5_bucket_207 rfl rfl ?_
    refine v_ialdN (n := 210) k 6 0 (u) rfl rfl (by omega) (by omega) (by omega) dX5_bucket_209 rfl ?_
    refine v_icmp_ge (n := 213) (t := 256) k (⟨by omega, by omega⟩) (⟨by omega, by omega⟩) dX5_bucket_210 (by decide) rfl (fun c_210 => ?_) (fun c_210 => ?_)
    · have e8 : j = z := by omega
      subst e8
      rw [e2, e1]
      exact hk9 _ hI
    · refine v_aload_n (n := 214) k dX5_bucket_213 rfl rfl ?_
      refine v_get (n := 217) k ciX5 0 18 (by decide) fl_X5_50 rfl rfl dX5_bucket_214 rfl ?_
      refine v_iconst (n := 218) k dX5_bucket_217 rfl ?_
      refine v_iload (n := 220) k dX5_bucket_218 rfl rfl ?_
      refine v_imul (n := 221) k dX5_bucket_220 rfl ?_
      refine v_iload (n := 223) k dX5_bucket_221 rfl rfl ?_
      refine v_bipush (n := 225) k dX5_bucket_223 (by decide) rfl ?_
      refine v_idiv (n := 226) k (((j / 8 : Nat) : Int)) (ax_ne0 (by omega) (by omega)) (ax_div e1 rfl (by omega) (by omega) (by omega)) dX5_bucket_225 rfl ?_
      refine v_iadd (n := 227) k dX5_bucket_226 rfl ?_
      refine v_dup2 (n := 228) k rfl rfl dX5_bucket_227 rfl ?_
      refine v_laldN (n := 229) k 8 2 (4 * u + j / 8) rfl rfl (by omega) (by omega) (by omega) dX5_bucket_228 rfl ?_
      refine v_aload_n (n := 230) k dX5_bucket_229 rfl rfl ?_
      refine v_iload_n (n := 231) k dX5_bucket_230 rfl rfl ?_
      refine v_iload_n (n := 232) k dX5_bucket_231 rfl rfl ?_
      refine v_rdVi (n := 235) k [0, 1] 0 (z_X5_at (p := p) (i := s + j) hP e2 hp (by omega) hg hA) miX5_at ml_X5_91 (by decide) (by decide) rfl (by decide) rfl rfl rfl rfl (Nat.le_of_ble_eq_true rfl) ⟨Nat.zero_le _, Nat.zero_le _⟩ dX5_bucket_232 rfl ?_
      refine v_i2l (n := 236) k dX5_bucket_235 rfl ?_
      refine v_bipush (n := 238) k dX5_bucket_236 (by decide) rfl ?_
      refine v_iload (n := 240) k dX5_bucket_238 rfl rfl ?_
      refine v_bipush (n := 242) k dX5_bucket_240 (by decide) rfl ?_
      refine v_irem (n := 243) k (((j % 8 : Nat) : Int)) (ax_ne0 (by omega) (by omega)) (ax_rem e1 rfl (by omega) (by omega) (by omega)) dX5_bucket_242 rfl ?_
      refine v_imul (n := 244) k dX5_bucket_243 rfl ?_
      refine v_lshl (n := 245) k dX5_bucket_244 rfl ?_
      refine v_lor (n := 246) k dX5_bucket_245 rfl ?_
      refine v_lastN (n := 247) k 8 2 (4 * u + j / 8) rfl rfl (by omega) (by omega) (by omega)  dX5_bucket_246 rfl ?_
      refine v_iinc (n := 250) k dX5_bucket_247 rfl (by decide) rfl rfl rfl ?_
      refine v_iinc (n := 253) k dX5_bucket_250 rfl (by decide) rfl rfl rfl ?_
      refine v_goto (t := 201) k dX5_bucket_253 (by decide) ?_
      exact ih (j + 1) _ _ _ (by omega) (by omega) (by omega) (by omega) (hI.step (by omega) (hC _) rfl)
theorem v_lvf4 {x : Kx} {nL : Nat} {D : va_G} {A : Nat → Prop} {wr : Bool} {cells slots : Nat} {ws : va_W} {pc : Nat} {a b c d e f : Nat × Value} {st : List Value} (h : Vw x nL A D wr cells slots ws pc [a, b, c, d] st) : Vw x nL A D wr cells slots ws pc [a, b, c, d, e, f] st := by
  intro H locs ls h1 h2 h3 h4
  refine h H locs ls h1 h2 h3 ⟨h4.1, h4.2.1, fun z hz => h4.2.2 z ?_⟩
  simp only [List.mem_cons, List.not_mem_nil, or_false] at hz ⊢
  rcases hz with h | h | h | h
  · exact Or.inl h
  · exact Or.inr (Or.inl h)
  · exact Or.inr (Or.inr (Or.inl h))
  · exact Or.inr (Or.inr (Or.inr (Or.inl h)))
set_option maxHeartbeats 1000000 in
set_option maxRecDepth 20000 in
theorem lp_X5_bucket {D : va_G} {cI cB cJ cZ : ClassId} {x : Kx} {hm : Nat} {r : Nat → Nat} {th : Int} {pg lg : Nat} {wt al dn : Int} {dp dm tp an ch : Nat} {Cm Bd Mn : Nat → Nat} {Ib : Nat → Bool} {q0 : RQ} {P : Int} {p : Nat} {C : Nat → Nat} (k : Kf x cX5_bucket 6 yX5_bucket.cls none D (TY cI cB cJ cZ) ({ frames := 1, cells := 0, slots := 0, locals := 22 })) {A : Nat → Prop} (hP : P = (p : Int)) (hp : p < pg) (hg : pg ≤ 255) (hA : AGP pg Cm C) (hC : ∀ j, C j < 256) (hw : WB C p) (hMn : Mn p = pb C p 1) (hk9 : ∀ (q : RQ) (S I : Int), BI q0 q C p (pb C p 1) → Vw x 6 A D true 0 0 [oM hm r th pg lg wt al dn dp dm tp an ch, aB cB (r 0) 65536 Cm, aZ cZ (r 4) 256 Ib, aN cI (r 5) 256 Bd, aN cI (r 6) 256 Mn, aN cI (r 7) 23040 (q).1, aN cI (r 8) 23040 (q).2.1, aL cJ (r 9) 46080 (q).2.2.1, aL cJ (r 10) 92160 (q).2.2.2] 262 [(0, .ref hm), (1, .int (iI P)), (2, .int (iI S)), (3, .int (iI I))] []) : ∀ (m : Nat) (i : Nat) (S I : Int) (q : RQ), pb C p 1 < i + m → i ≤ pb C p 1 → I = (i : Int) → S = ((rst C p i : Nat) : Int) → BI q0 q C p i → Vw x 6 A D true 0 0 [oM hm r th pg lg wt al dn dp dm tp an ch, aB cB (r 0) 65536 Cm, aZ cZ (r 4) 256 Ib, aN cI (r 5) 256 Bd, aN cI (r 6) 256 Mn, aN cI (r 7) 23040 (q).1, aN cI (r 8) 23040 (q).2.1, aL cJ (r 9) 46080 (q).2.2.1, aL cJ (r 10) 92160 (q).2.2.2] 35 [(0, .ref hm), (1, .int (iI P)), (2, .int (iI S)), (3, .int (iI I))] [] := by
  intro m
  induction m with
  | zero => intro i S I q hm9 hi e1 e2 hI; omega
  | succ m ih =>
    intro i S I q hm9 hi e1 e2 hI
    have hcn := hw.count
    have hbl := hw.2.2
    refine v_iload_n (n := 36) k dX5_bucket_35 rfl rfl ?_
    refine v_aload_n (n := 37) k dX5_bucket_36 rfl rfl ?_
    refine v_get (n := 40) k ciX5 0 14 (by decide) fl_X5_35 rfl rfl dX5_bucket_37 rfl ?_
    refine v_iload_n (n := 41) k dX5_bucket_40 rfl rfl ?_
    refine v_ialdN (n := 42) k 4 0 (p) rfl rfl (by omega) (by omega) (by omega) dX5_bucket_41 rfl ?_
    refine v_icmp_ge (n := 45) (t := 262) k (⟨by omega, by omega⟩) (⟨by omega, by omega⟩) dX5_bucket_42 (by decide) rfl (fun c_42 => ?_) (fun c_42 => ?_)
    · have e8 : i = pb C p 1 := by omega
      exact hk9 q _ _ (e8 ▸ hI)
    · have hf := hw.fit (r := i) (by omega)
      have hz9 := rsz_ge C p (rst C p i)
      have hr9 := hw.1 i (by omega)
      refine v_bipush (n := 47) k dX5_bucket_45 (by decide) rfl ?_
      refine v_iload_n (n := 48) k dX5_bucket_47 rfl rfl ?_
      refine v_imul (n := 49) k dX5_bucket_48 rfl ?_
      refine v_iload_n (n := 50) k dX5_bucket_49 rfl rfl ?_
      refine v_iadd (n := 51) k dX5_bucket_50 rfl ?_
      refine v_istore (n := 53) k dX5_bucket_51 rfl (by decide) rfl rfl ?_
      refine v_aload_n (n := 54) k dX5_bucket_53 rfl rfl ?_
      refine v_get (n := 57) k ciX5 0 15 (by decide) fl_X5_38 rfl rfl dX5_bucket_54 rfl ?_
      refine v_iload (n := 59) k dX5_bucket_57 rfl rfl ?_
      refine v_aload_n (n := 60) k dX5_bucket_59 rfl rfl ?_
      refine v_iload_n (n := 61) k dX5_bucket_60 rfl rfl ?_
      refine v_iload_n (n := 62) k dX5_bucket_61 rfl rfl ?_
      refine v_rdVi (n := 65) k [0, 1] 0 (z_X5_at (p := p) (i := rst C p i) hP e2 hp (by omega) hg hA) miX5_at ml_X5_91 (by decide) (by decide) rfl (by decide) rfl rfl rfl rfl (Nat.le_of_ble_eq_true rfl) ⟨Nat.zero_le _, Nat.zero_le _⟩ dX5_bucket_62 rfl ?_
      refine v_iastN (n := 66) k 5 0 (90 * p + i) rfl rfl (by omega) (by omega) (by omega) (pb C p (rst C p i)) (rfl) dX5_bucket_65 rfl ?_
      refine v_aload_n (n := 67) k dX5_bucket_66 rfl rfl ?_
      refine v_get (n := 70) k ciX5 0 16 (by decide) fl_X5_41 rfl rfl dX5_bucket_67 rfl ?_
      refine v_iload (n := 72) k dX5_bucket_70 rfl rfl ?_
      refine v_aload_n (n := 73) k dX5_bucket_72 rfl rfl ?_
      refine v_iload_n (n := 74) k dX5_bucket_73 rfl rfl ?_
      refine v_iload_n (n := 75) k dX5_bucket_74 rfl rfl ?_
      refine v_iconst (n := 76) k dX5_bucket_75 rfl ?_
      refine v_iadd (n := 77) k dX5_bucket_76 rfl ?_
      refine v_rdVi (n := 80) k [0, 1] 0 (z_X5_at (p := p) (i := rst C p i + 1) hP (by omega) hp (by omega) hg hA) miX5_at ml_X5_91 (by decide) (by decide) rfl (by decide) rfl rfl rfl rfl (Nat.le_of_ble_eq_true rfl) ⟨Nat.zero_le _, Nat.zero_le _⟩ dX5_bucket_77 rfl ?_
      refine v_iastN (n := 81) k 6 0 (90 * p + i) rfl rfl (by omega) (by omega) (by omega) (pb C p (rst C p i + 1)) (rfl) dX5_bucket_80 rfl ?_
      refine v_iinc (n := 84) k dX5_bucket_81 rfl (by decide) rfl rfl rfl ?_
      refine v_iconst (n := 85) k dX5_bucket_84 rfl ?_
      refine v_istore (n := 87) k dX5_bucket_85 rfl (by decide) rfl rfl ?_
      refine v_iload (n := 89) k dX5_bucket_87 rfl rfl ?_
      refine v_iconst (n := 90) k dX5_bucket_89 rfl ?_
      refine v_icmp_ge (n := 93) (t := 112) k (⟨by omega, by omega⟩) (⟨by omega, by omega⟩) dX5_bucket_90 (by decide) rfl (fun c_90 => ?_) (fun c_90 => ?_)
      · exfalso; omega
      · refine v_aload_n (n := 94) k dX5_bucket_93 rfl rfl ?_
        refine v_get (n := 97) k ciX5 0 17 (by decide) fl_X5_45 rfl rfl dX5_bucket_94 rfl ?_
        refine v_iconst (n := 98) k dX5_bucket_97 rfl ?_
        refine v_iload (n := 100) k dX5_bucket_98 rfl rfl ?_
        refine v_imul (n := 101) k dX5_bucket_100 rfl ?_
        refine v_iload (n := 103) k dX5_bucket_101 rfl rfl ?_
        refine v_iadd (n := 104) k dX5_bucket_103 rfl ?_
        refine v_lconst (n := 105) k 0 rfl dX5_bucket_104 rfl ?_
        refine v_lastN (n := 106) k 7 2 (2 * (90 * p + i) + 0) rfl rfl (by omega) (by omega) (by omega)  dX5_bucket_105 rfl ?_
        refine v_iinc (n := 109) k dX5_bucket_106 rfl (by decide) rfl rfl rfl ?_
        refine v_goto (t := 87) k dX5_bucket_109 (by decide) ?_
        refine v_iload (n := 89) k dX5_bucket_87 rfl rfl ?_
        refine v_iconst (n := 90) k dX5_bucket_89 rfl ?_
        refine v_icmp_ge (n := 93) (t := 112) k (⟨by omega, by omega⟩) (⟨by omega, by omega⟩) dX5_bucket_90 (by decide) rfl (fun c_90 => ?_) (fun c_90 => ?_)
        · exfalso; omega
        · refine v_aload_n (n := 94) k dX5_bucket_93 rfl rfl ?_
          refine v_get (n := 97) k ciX5 0 17 (by decide) fl_X5_45 rfl rfl dX5_bucket_94 rfl ?_
          refine v_iconst (n := 98) k dX5_bucket_97 rfl ?_
          refine v_iload (n := 100) k dX5_bucket_98 rfl rfl ?_
          refine v_imul (n := 101) k dX5_bucket_100 rfl ?_
          refine v_iload (n := 103) k dX5_bucket_101 rfl rfl ?_
          refine v_iadd (n := 104) k dX5_bucket_103 rfl ?_
          refine v_lconst (n := 105) k 0 rfl dX5_bucket_104 rfl ?_
          refine v_lastN (n := 106) k 7 2 (2 * (90 * p + i) + 1) rfl rfl (by omega) (by omega) (by omega)  dX5_bucket_105 rfl ?_
          refine v_iinc (n := 109) k dX5_bucket_106 rfl (by decide) rfl rfl rfl ?_
          refine v_goto (t := 87) k dX5_bucket_109 (by decide) ?_
          refine v_iload (n := 89) k dX5_bucket_87 rfl rfl ?_
          refine v_iconst (n := 90) k dX5_bucket_89 rfl ?_
          refine v_icmp_ge (n := 93) (t := 112) k (⟨by omega, by omega⟩) (⟨by omega, by omega⟩) dX5_bucket_90 (by decide) rfl (fun c_90 => ?_) (fun c_90 => ?_)
          · refine v_iconst (n := 113) k dX5_bucket_112 rfl ?_
            refine v_istore (n := 115) k dX5_bucket_113 rfl (by decide) rfl rfl ?_
            refine v_iload (n := 117) k dX5_bucket_115 rfl rfl ?_
            refine v_iconst (n := 118) k dX5_bucket_117 rfl ?_
            refine v_icmp_ge (n := 121) (t := 140) k (⟨by omega, by omega⟩) (⟨by omega, by omega⟩) dX5_bucket_118 (by decide) rfl (fun c_118 => ?_) (fun c_118 => ?_)
            · exfalso; omega
            · refine v_aload_n (n := 122) k dX5_bucket_121 rfl rfl ?_
              refine v_get (n := 125) k ciX5 0 18 (by decide) fl_X5_50 rfl rfl dX5_bucket_122 rfl ?_
              refine v_iconst (n := 126) k dX5_bucket_125 rfl ?_
              refine v_iload (n := 128) k dX5_bucket_126 rfl rfl ?_
              refine v_imul (n := 129) k dX5_bucket_128 rfl ?_
              refine v_iload (n := 131) k dX5_bucket_129 rfl rfl ?_
              refine v_iadd (n := 132) k dX5_bucket_131 rfl ?_
              refine v_lconst (n := 133) k 0 rfl dX5_bucket_132 rfl ?_
              refine v_lastN (n := 134) k 8 2 (4 * (90 * p + i) + 0) rfl rfl (by omega) (by omega) (by omega)  dX5_bucket_133 rfl ?_
              refine v_iinc (n := 137) k dX5_bucket_134 rfl (by decide) rfl rfl rfl ?_
              refine v_goto (t := 115) k dX5_bucket_137 (by decide) ?_
              refine v_iload (n := 117) k dX5_bucket_115 rfl rfl ?_
              refine v_iconst (n := 118) k dX5_bucket_117 rfl ?_
              refine v_icmp_ge (n := 121) (t := 140) k (⟨by omega, by omega⟩) (⟨by omega, by omega⟩) dX5_bucket_118 (by decide) rfl (fun c_118 => ?_) (fun c_118 => ?_)
              · exfalso; omega
              · refine v_aload_n (n := 122) k dX5_bucket_121 rfl rfl ?_
                refine v_get (n := 125) k ciX5 0 18 (by decide) fl_X5_50 rfl rfl dX5_bucket_122 rfl ?_
                refine v_iconst (n := 126) k dX5_bucket_125 rfl ?_
                refine v_iload (n := 128) k dX5_bucket_126 rfl rfl ?_
                refine v_imul (n := 129) k dX5_bucket_128 rfl ?_
                refine v_iload (n := 131) k dX5_bucket_129 rfl rfl ?_
                refine v_iadd (n := 132) k dX5_bucket_131 rfl ?_
                refine v_lconst (n := 133) k 0 rfl dX5_bucket_132 rfl ?_
                refine v_lastN (n := 134) k 8 2 (4 * (90 * p + i) + 1) rfl rfl (by omega) (by omega) (by omega)  dX5_bucket_133 rfl ?_
                refine v_iinc (n := 137) k dX5_bucket_134 rfl (by decide) rfl rfl rfl ?_
                refine v_goto (t := 115) k dX5_bucket_137 (by decide) ?_
                refine v_iload (n := 117) k dX5_bucket_115 rfl rfl ?_
                refine v_iconst (n := 118) k dX5_bucket_117 rfl ?_
                refine v_icmp_ge (n := 121) (t := 140) k (⟨by omega, by omega⟩) (⟨by omega, by omega⟩) dX5_bucket_118 (by decide) rfl (fun c_118 => ?_) (fun c_118 => ?_)
                · exfalso; omega
                · refine v_aload_n (n := 122) k dX5_bucket_121 rfl rfl ?_
                  refine v_get (n := 125) k ciX5 0 18 (by decide) fl_X5_50 rfl rfl dX5_bucket_122 rfl ?_
                  refine v_iconst (n := 126) k dX5_bucket_125 rfl ?_
                  refine v_iload (n := 128) k dX5_bucket_126 rfl rfl ?_
                  refine v_imul (n := 129) k dX5_bucket_128 rfl ?_
                  refine v_iload (n := 131) k dX5_bucket_129 rfl rfl ?_
                  refine v_iadd (n := 132) k dX5_bucket_131 rfl ?_
                  refine v_lconst (n := 133) k 0 rfl dX5_bucket_132 rfl ?_
                  refine v_lastN (n := 134) k 8 2 (4 * (90 * p + i) + 2) rfl rfl (by omega) (by omega) (by omega)  dX5_bucket_133 rfl ?_
                  refine v_iinc (n := 137) k dX5_bucket_134 rfl (by decide) rfl rfl rfl ?_
                  refine v_goto (t := 115) k dX5_bucket_137 (by decide) ?_
                  refine v_iload (n := 117) k dX5_bucket_115 rfl rfl ?_
                  refine v_iconst (n := 118) k dX5_bucket_117 rfl ?_
                  refine v_icmp_ge (n := 121) (t := 140) k (⟨by omega, by omega⟩) (⟨by omega, by omega⟩) dX5_bucket_118 (by decide) rfl (fun c_118 => ?_) (fun c_118 => ?_)
                  · exfalso; omega
                  · refine v_aload_n (n := 122) k dX5_bucket_121 rfl rfl ?_
                    refine v_get (n := 125) k ciX5 0 18 (by decide) fl_X5_50 rfl rfl dX5_bucket_122 rfl ?_
                    refine v_iconst (n := 126) k dX5_bucket_125 rfl ?_
                    refine v_iload (n := 128) k dX5_bucket_126 rfl rfl ?_
                    refine v_imul (n := 129) k dX5_bucket_128 rfl ?_
                    refine v_iload (n := 131) k dX5_bucket_129 rfl rfl ?_
                    refine v_iadd (n := 132) k dX5_bucket_131 rfl ?_
                    refine v_lconst (n := 133) k 0 rfl dX5_bucket_132 rfl ?_
                    refine v_lastN (n := 134) k 8 2 (4 * (90 * p + i) + 3) rfl rfl (by omega) (by omega) (by omega)  dX5_bucket_133 rfl ?_
                    refine v_iinc (n := 137) k dX5_bucket_134 rfl (by decide) rfl rfl rfl ?_
                    refine v_goto (t := 115) k dX5_bucket_137 (by decide) ?_
                    refine v_iload (n := 117) k dX5_bucket_115 rfl rfl ?_
                    refine v_iconst (n := 118) k dX5_bucket_117 rfl ?_
                    refine v_icmp_ge (n := 121) (t := 140) k (⟨by omega, by omega⟩) (⟨by omega, by omega⟩) dX5_bucket_118 (by decide) rfl (fun c_118 => ?_) (fun c_118 => ?_)
                    · refine v_iconst (n := 141) k dX5_bucket_140 rfl ?_
                      refine v_istore (n := 143) k dX5_bucket_141 rfl (by decide) rfl rfl ?_
                      refine lp_X5_bucket_k k hP hp hg hA hC (X := 90 * P + I) (u := 90 * p + i) (s := rst C p i + 2) (z := pb C p (rst C p i)) (K0 := q.2.2.1) (by omega) (by omega) (by exact if_pos rfl) (by omega) (by omega) (fun K9 hK9 => ?_) (pb C p (rst C p i) + 1) 0 (S + 2) 0 _ (by omega) (by omega) rfl (by omega) (KI.z2 _ _ _)
                      refine v_iconst (n := 199) k dX5_bucket_198 rfl ?_
                      refine v_istore (n := 201) k dX5_bucket_199 rfl (by decide) rfl rfl ?_
                      refine lp_X5_bucket_v k hP hp hg hA hC (u := 90 * p + i) (s := rst C p i + 2 + pb C p (rst C p i)) (z := pb C p (rst C p i + 1)) (V0 := q.2.2.2) (by omega) (by omega) (by exact if_pos rfl) (by omega) (by omega) (fun V9 hV9 => ?_) (pb C p (rst C p i + 1) + 1) 0 _ _ _ (by omega) (by omega) rfl (by omega) (KI.z4 _ _ _)
                      refine v_iinc (n := 259) k dX5_bucket_256 rfl (by decide) rfl rfl rfl ?_
                      refine v_goto (t := 35) k dX5_bucket_259 (by decide) ?_
                      refine v_lvf4 ?_
                      exact ih (i + 1) _ _ (upN q.1 (90 * p + i) (pb C p (rst C p i)), upN q.2.1 (90 * p + i) (pb C p (rst C p i + 1)), K9, V9) (by omega) (by omega) (by omega) (by show _ = ((rst C p i + rsz C p (rst C p i) : Nat) : Int); omega) (hI.step hK9 hV9 hr9.2.1 hr9.2.2)
                    · exfalso; omega
          · exfalso; omega
set_option maxHeartbeats 1000000 in
set_option maxRecDepth 20000 in
theorem z_X5_bucket {D : va_G} {cI cB cJ cZ : ClassId} {hm : Nat} {r : Nat → Nat} {th : Int} {pg lg : Nat} {wt al dn : Int} {dp dm tp an ch : Nat} {Cm : Nat → Nat} {Bd : Nat → Nat} {Mn : Nat → Nat} {Ib : Nat → Bool} {q : RQ} {P : Int} {p : Nat} {C : Nat → Nat} (hP : P = (p : Int)) (hp : p < pg) (hg : pg ≤ 255) (hA : AGP pg Cm C) (hC : ∀ j, C j < 256) (hw : WB C p) (hQ : QB q) : ∀ l, Up l yX5_bucket cX5_bucket 6 none ({ frames := 1, cells := 0, slots := 0, locals := 22 }) D (TY cI cB cJ cZ) [.ref hm, .int (iI P)] [oM hm r th pg lg wt al dn dp dm tp an ch, aB cB (r 0) 65536 Cm, aZ cZ (r 4) 256 Ib, aN cI (r 5) 256 Bd, aN cI (r 6) 256 Mn, aN cI (r 7) 23040 q.1, aN cI (r 8) 23040 q.2.1, aL cJ (r 9) 46080 q.2.2.1, aL cJ (r 10) 92160 q.2.2.2] (fun v w1 => v = none ∧ ∃ q9, BI q q9 C p (pb C p 1) ∧ w1 = [oM hm r th pg lg wt al dn dp dm tp an ch, aB cB (r 0) 65536 Cm, aZ cZ (r 4) 256 (upB Ib p true), aN cI (r 5) 256 (upN Bd p (pb C p 0)), aN cI (r 6) 256 (upN Mn p (pb C p 1)), aN cI (r 7) 23040 (q9).1, aN cI (r 8) 23040 (q9).2.1, aL cJ (r 9) 46080 (q9).2.2.1, aL cJ (r 10) 92160 (q9).2.2.2]) := by
  intro l
  refine Up_of (by decide) (Nat.le_of_ble_eq_true rfl) (fun x k hq => ?_)
  refine v_aload_n (n := 1) k dX5_bucket_0 rfl rfl ?_
  refine v_get (n := 4) k ciX5 0 12 (by decide) fl_X5_28 rfl rfl dX5_bucket_1 rfl ?_
  refine v_iload_n (n := 5) k dX5_bucket_4 rfl rfl ?_
  refine v_iconst (n := 6) k dX5_bucket_5 rfl ?_
  refine v_zastN (n := 7) k 2 3 (p) rfl rfl (by omega) (by omega) (by omega) (true) (rfl) dX5_bucket_6 rfl ?_
  refine v_aload_n (n := 8) k dX5_bucket_7 rfl rfl ?_
  refine v_get (n := 11) k ciX5 0 13 (by decide) fl_X5_32 rfl rfl dX5_bucket_8 rfl ?_
  refine v_iload_n (n := 12) k dX5_bucket_11 rfl rfl ?_
  refine v_aload_n (n := 13) k dX5_bucket_12 rfl rfl ?_
  refine v_iload_n (n := 14) k dX5_bucket_13 rfl rfl ?_
  refine v_iconst (n := 15) k dX5_bucket_14 rfl ?_
  refine v_rdVi (n := 18) k [0, 1] 0 (z_X5_at (p := p) (i := 0) hP rfl hp (by omega) hg hA) miX5_at ml_X5_91 (by decide) (by decide) rfl (by decide) rfl rfl rfl rfl (Nat.le_of_ble_eq_true rfl) ⟨Nat.zero_le _, Nat.zero_le _⟩ dX5_bucket_15 rfl ?_
  refine v_iastN (n := 19) k 3 0 (p) rfl rfl (by omega) (by omega) (by omega) (pb C p 0) (rfl) dX5_bucket_18 rfl ?_
  refine v_aload_n (n := 20) k dX5_bucket_19 rfl rfl ?_
  refine v_get (n := 23) k ciX5 0 14 (by decide) fl_X5_35 rfl rfl dX5_bucket_20 rfl ?_
  refine v_iload_n (n := 24) k dX5_bucket_23 rfl rfl ?_
  refine v_aload_n (n := 25) k dX5_bucket_24 rfl rfl ?_
  refine v_iload_n (n := 26) k dX5_bucket_25 rfl rfl ?_
  refine v_iconst (n := 27) k dX5_bucket_26 rfl ?_
  refine v_rdVi (n := 30) k [0, 1] 0 (z_X5_at (p := p) (i := 1) hP rfl hp (by omega) hg hA) miX5_at ml_X5_91 (by decide) (by decide) rfl (by decide) rfl rfl rfl rfl (Nat.le_of_ble_eq_true rfl) ⟨Nat.zero_le _, Nat.zero_le _⟩ dX5_bucket_27 rfl ?_
  refine v_iastN (n := 31) k 4 0 (p) rfl rfl (by omega) (by omega) (by omega) (pb C p 1) (rfl) dX5_bucket_30 rfl ?_
  refine v_iconst (n := 32) k dX5_bucket_31 rfl ?_
  refine v_istore_n (n := 33) k dX5_bucket_32 rfl (by decide) rfl rfl ?_
  refine v_iconst (n := 34) k dX5_bucket_33 rfl ?_
  refine v_istore_n (n := 35) k dX5_bucket_34 rfl (by decide) rfl rfl ?_
  refine lp_X5_bucket k hP hp hg hA hC hw (by exact if_pos rfl) (q0 := q) (fun q9 S9 I9 hq9 => ?_) (pb C p 1 + 1) 0 4 0 q (by omega) (by omega) rfl rfl ⟨hQ, fun _ _ => rfl, fun r hr => absurd hr (by omega)⟩
  refine v_vretU k hq ?_ rfl dX5_bucket_262
  exact ⟨rfl, q9, hq9, rfl⟩
