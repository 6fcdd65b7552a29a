/-! ===== sheets ===== -/
theorem d10 : (nI 1 = (0 : Int32)) = False := eq_false (by decide)
theorem d20 : (nI 2 = (0 : Int32)) = False := eq_false (by decide)
theorem d30 : (nI 3 = (0 : Int32)) = False := eq_false (by decide)
theorem d21 : (nI 2 = (1 : Int32)) = False := eq_false (by decide)
theorem d31 : (nI 3 = (1 : Int32)) = False := eq_false (by decide)
theorem d32 : (nI 3 = (2 : Int32)) = False := eq_false (by decide)
theorem d00 : (nI 0 = (0 : Int32)) = True := eq_true (by decide)
theorem d11 : (nI 1 = (1 : Int32)) = True := eq_true (by decide)
theorem d22 : (nI 2 = (2 : Int32)) = True := eq_true (by decide)
theorem dl10 : ((1 : Int32) = 0) = False := eq_false (by decide)
theorem c_isSheet {i : Nat} (hi : i < 4) : xX7_isSheet (nI i) = some 1 := by
  rcases (show i = 0 ∨ i = 1 ∨ i = 2 ∨ i = 3 by omega) with h | h | h | h <;> (subst h; decide)
theorem c_isSheetN {x : Int32} (h : x < 0 ∨ nI 4 ≤ x) : xX7_isSheet x = some 0 := by
  unfold xX7_isSheet
  by_cases z : x < 0
  · rw [if_pos z]
  · rw [if_neg z, if_pos (show (4 : Int32) ≤ x from h.resolve_left z)]
theorem m_isSheet (x : Int32) : xX8_isSheet x = xX7_isSheet x := by
  unfold xX8_isSheet
  rw [m_in, bn1_s]
  rcases arg_ix x (n := 4) (by decide) with h | ⟨i, hi, rfl⟩
  · rw [c_isSheetN h, if_neg (show ¬ (0 ≤ x ∧ x ≤ 3) from out_k (n := 3) (by decide) h)]
    rfl
  · rw [c_isSheet hi, if_pos (show (0 : Int32) ≤ nI i ∧ nI i ≤ 3 from in_k (n := 3) (by omega) (by decide))]
    rfl
/-- the sheets of both sides are the same as far as they go -/
def ShR (SO LE : RSt) (RO : Nat → Nat → Int64) (qs qz : RSt) (it : Nat → Int64) : Prop := ∀ i, i < 4 → SO i = qs i ∧ LE i = qz i ∧ (SO i = m1 ∨ SO i = 0 ∨ SO i = 1) ∧ ∃ k, k ≤ 40 ∧ LE i = nI k ∧ (SO i = m1 → k = 0) ∧ ∀ j, j < k → RO i j = it (40 * i + j)
theorem c_item {LE : RSt} {RO : Nat → Nat → Int64} {i : Nat} {y : Int32} (hi : i < 4) : xX7_item LE RO (nI i) y = bn1 (xX5_has (LE i) y) (fun v => if v = 0 then some (-4611686018427387904) else bn1 (xX5_at (LE i) (RO i) y) (fun v => some v)) := by
  have h4 : ix (nI i) 4 = true := ix_nI (by omega) hi
  have hs := c_isSheet hi
  rcases (show i = 0 ∨ i = 1 ∨ i = 2 ∨ i = 3 by omega) with h | h | h | h <;> (subst h; simp only [xX7_item, hs, h4, bn1_s, grd_t, dl10, d10, d20, d30, d21, d31, d32, d00, d11, d22, iT, iF])
theorem has_k {k : Nat} (hk : k ≤ 40) (y : Int32) : xX5_has (nI k) y = some (if 0 ≤ y ∧ y ≤ nI k - 1 then 1 else 0) ∧ ((0 ≤ y ∧ y ≤ nI k - 1) → ∃ j, j < k ∧ y = nI j) := by
  have hk1 : (nI k - 1).toInt = (k : Int) - 1 := by
    rcases Nat.eq_zero_or_pos k with z | z
    · subst z; decide
    · rw [show (1 : Int32) = nI 1 from rfl, nI_subE z, nI_toInt (by omega)]
      omega
  have hj : (0 ≤ y ∧ y ≤ nI k - 1) → ∃ j, j < k ∧ y = nI j := by
    rintro ⟨h1, h2⟩
    rw [Int32.le_iff_toInt_le] at h1 h2
    rw [show (0 : Int32).toInt = 0 by decide] at h1
    rw [hk1] at h2
    rcases arg_ix y (n := 40) (by decide) with z | ⟨j, hj, rfl⟩
    · rcases z with z | z
      · rw [Int32.lt_iff_toInt_lt, show (0 : Int32).toInt = 0 by decide] at z; omega
      · rw [Int32.le_iff_toInt_le, nI_toInt (by decide)] at z; omega
    · rw [nI_toInt (by omega)] at h2
      exact ⟨j, by omega, rfl⟩
  refine ⟨?_, hj⟩
  unfold xX5_has
  by_cases z : 0 ≤ y ∧ y ≤ nI k - 1
  · obtain ⟨j, hj, rfl⟩ := hj z
    rw [if_pos z, if_neg (nI_pos (by omega)), if_neg (by rw [nI_leE (by omega) (by omega)]; omega), if_neg (by rw [L40, nI_leE (by omega) (by omega)]; omega)]
  · rw [if_neg z]
    by_cases y0 : y < 0
    · rw [if_pos y0]
    · rw [if_neg y0]
      by_cases y1 : nI k ≤ y
      · rw [if_pos y1]
      · refine absurd ⟨?_, ?_⟩ z
        · rw [Int32.le_iff_toInt_le]; rw [Int32.lt_iff_toInt_lt] at y0; omega
        · rw [Int32.le_iff_toInt_le, hk1]
          rw [Int32.le_iff_toInt_le, nI_toInt (by omega)] at y1
          omega
theorem q_item {SO LE : RSt} {RO : Nat → Nat → Int64} {qs qz : RSt} {it : Nat → Int64} (h : ShR SO LE RO qs qz it) (x y : Int32) : ∃ r, xX7_item LE RO x y = some r ∧ xX8_item qs qz it x y = some r := by
  unfold xX8_item
  rw [m_isSheet]
  rcases arg_ix x (n := 4) (by decide) with hx | ⟨i, hi, rfl⟩
  · unfold xX7_item
    rw [c_isSheetN hx, bn1_s, bn1_s, if_pos zero_eq, if_pos zero_eq]
    exact ⟨_, rfl, rfl⟩
  · obtain ⟨eS, eL, hso, k, hk, ek, hk0, hr⟩ := h i hi
    obtain ⟨g1, g2⟩ := has_k hk y
    rw [c_item hi, c_isSheet hi, bn1_s, if_neg one_ne, ix_nI (by omega) hi, grd_t, grd_t, nI_clE (by omega), ← eS, ← eL, ek, g1, bn1_s, ite10, m_in, bn1_s, ite10]
    by_cases z : 0 ≤ y ∧ y ≤ nI k - 1
    · obtain ⟨j, hj, rfl⟩ := g2 z
      have hm : ¬ SO i = -1 := fun w => by have := hk0 w; omega
      rw [if_pos z, if_pos z, if_neg hm]
      unfold xX5_at
      have a : (40 : Int32) * nI i + nI j = nI (40 * i + j) := by rw [L40, nI_mulE, nI_addE]
      rw [g1, if_pos z, bn1_s, if_neg one_ne, ix_nI (by omega) (by omega), grd_t, nI_clE (by omega), bn1_s, a, ix_nI (by omega) (by omega), grd_t, nI_clE (by omega), hr j hj]
      exact ⟨_, rfl, rfl⟩
    · rw [if_neg z, if_neg z]
      refine ⟨_, rfl, ?_⟩
      split <;> rfl
