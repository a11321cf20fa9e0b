set_option maxRecDepth 20000 in
theorem fm_at (C : Nat → Nat) (n g j : Nat) : fmC C n g j = if j = (g + 2) * 256 then g + 3 else if j = 1 then g + 2 else if j < n * 256 then 0 else C j := by
  unfold fmC wpC
  rw [upN_at, upN_at]
  have e1 : (g + 2) * 256 + 0 = (g + 2) * 256 := Nat.add_zero _
  have e2 : 0 * 256 + 1 = 1 := by decide
  rw [e1, e2]
set_option maxRecDepth 20000 in
theorem fm_full {C : Nat → Nat} {n g : Nat} (h1 : 8 ≤ n) (h2 : n ≤ 255) (h3 : 2 ≤ g) (h4 : g ≤ 100) (h5 : g + 4 ≤ n) (hC : ∀ j, C j < 256) : FULL (fmC C n g) n g ∧ pb (fmC C n g) 1 0 = 0 := by
  have e0 : fmC C n g 0 = 0 := by rw [fm_at, if_neg (by omega), if_neg (by omega), if_pos (by omega)]
  have e1 : fmC C n g 1 = g + 2 := by rw [fm_at, if_neg (by omega), if_pos rfl]
  have e2 : ∀ j, j < n * 256 → j ≠ 1 → j ≠ (g + 2) * 256 → fmC C n g j = 0 := fun j k1 k2 k3 => by rw [fm_at, if_neg k3, if_neg k2, if_pos k1]
  have e3 : fmC C n g ((g + 2) * 256) = g + 3 := by rw [fm_at, if_pos rfl]
  have hp : pF (fmC C n g 0) = 1 := by rw [e0]; rfl
  have hen : entN (fmC C n g) 0 = g + 3 := by
    unfold entN
    rw [pb0, show 1 + 0 / 256 = 1 from rfl, e1]
    have e4 : pb (fmC C n g) (g + 2) (0 % 256) = fmC C n g ((g + 2) * 256 + 0 % 256) := rfl
    rw [e4, show (g + 2) * 256 + 0 % 256 = (g + 2) * 256 by omega]
    exact e3
  have hb : ∀ j, j < 256 → pb (fmC C n g) (g + 3) j = 0 := fun j hj => e2 _ (by omega) (by omega) (by omega)
  have hlt : ∀ j, fmC C n g j < 256 := fun j => by
    rw [fm_at]
    split
    · omega
    · split
      · omega
      · split
        · decide
        · exact hC j
  refine ⟨⟨⟨⟨h1, h2, hlt, by rw [e0]; decide, fun k hk => ?_, fun k hk => ?_, h4⟩, h5, h3, by rw [e0]; decide⟩, fun i hi => ?_, fun i j hi hj => ?_, fun k k' hk hk' _ => ?_, fun k j hk hj hd => ?_⟩, e2 _ (by omega) (by omega) (by omega)⟩
  · rw [hp] at hk
    rw [show 1 + k = 1 by omega, e1]
    omega
  · rw [hp] at hk
    rw [show 1 + k = 1 by omega, e1]
    omega
  · rw [e0] at hi
    have hi0 : i = 0 := by have : i < 1 := hi; omega
    subst hi0
    rw [hen, hp]
    have hn1 : pb (fmC C n g) (g + 3) 1 = 0 := hb 1 (by decide)
    have hbl : bL (fmC C n g) (g + 3) = 0 := by
      unfold bL
      rw [hb 2 (by decide), hb 3 (by decide)]
    refine ⟨by omega, by omega, dirB_f (fun k hk => ?_), ⟨fun r hr => ?_, ?_, by rw [hbl]; decide⟩, by rw [hb 0 (by decide)]; exact Nat.zero_le _⟩
    · rw [show 1 + k = 1 by omega, e1]
      omega
    · rw [hn1] at hr
      exact absurd hr (Nat.not_lt_zero r)
    · rw [hn1, hbl]
      rfl
  · rw [e0] at hi hj
    have hi0 : i = 0 := by have : i < 1 := hi; omega
    have hj0 : j = 0 := by have : j < 1 := hj; omega
    rw [hi0, hj0]
    exact ⟨fun _ => rfl, fun _ => rfl⟩
  · rw [hp] at hk hk'
    omega
  · rw [hp] at hk
    rw [e0] at hd
    have hd' : 1 ≤ k * 256 + j := hd
    rw [show 1 + k = 1 by omega, e1]
    exact e2 _ (by omega) (by omega) (by omega)
def fmOk (P L : Int) : Prop := 8 ≤ P ∧ P ≤ 255 ∧ 2 ≤ L ∧ L ≤ 100 ∧ L + 4 ≤ P
