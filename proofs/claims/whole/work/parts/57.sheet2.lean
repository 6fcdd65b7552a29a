/-! ===== sheets: cell, sheet ===== -/
theorem stRL_eq {RO : Nat → Nat → Int64} {i : Nat} {f : Nat → Int64} : stRL RO i f i = f := by unfold stRL; rw [if_pos rfl]
theorem stRL_ne {RO : Nat → Nat → Int64} {i a : Nat} {f : Nat → Int64} (h : a ≠ i) : stRL RO i f a = RO a := by unfold stRL; rw [if_neg h]
section
variable {SO LE : RSt} {RO : Nat → Nat → Int64} {qs qz : RSt} {it : Nat → Int64}
theorem sh_upd (h : ShR SO LE RO qs qz it) {i j : Nat} (hj : j < 40) (v : Int64) : ShR SO LE (stRL RO i (vp_updL (RO i) j v)) qs qz (vp_updL it (40 * i + j) v) := by
  intro i' hi'
  obtain ⟨eS, eL, hso, k, hk, ek, hk0, hr⟩ := h i' hi'
  refine ⟨eS, eL, hso, k, hk, ek, hk0, fun j' hj' => ?_⟩
  by_cases e : i' = i
  · subst e
    rw [stRL_eq]
    by_cases e2 : j' = j
    · subst e2; rw [pk_uLs, pk_uLs]
    · rw [pk_uLn e2, pk_uLn (by omega)]; exact hr j' hj'
  · rw [stRL_ne e, pk_uLn (by omega)]; exact hr j' hj'
theorem sh_same (h : ShR SO LE RO qs qz it) (i : Nat) : ShR SO LE (stRL RO i (RO i)) qs qz it := by
  have : stRL RO i (RO i) = RO := by
    funext a
    by_cases e : a = i
    · subst e; exact stRL_eq
    · exact stRL_ne e
  rw [this]; exact h
theorem c_cell {i : Nat} {y : Int32} {v : Int64} (hi : i < 4) : xX7_cell SO LE RO (nI i) y v = bn1 (xX5_isMissing (SO i)) (fun a => if a = 0 then bn2 (xX5_put (SO i) (LE i) (RO i) y v) (fun r ro => if r = 0 then some (-12, stRL RO i ro) else some (1, stRL RO i ro)) else some (-11, RO)) := by
  have h4 : ix (nI i) 4 = true := ix_nI (by omega) hi
  have hs := c_isSheet hi
  rcases (show i = 0 ∨ i = 1 ∨ i = 2 ∨ i = 3 by omega) with h | h | h | h <;> (subst h; simp only [xX7_cell, hs, h4, bn1_s, grd_t, lt1_s, dl10, d10, d20, d30, d21, d31, d32, d00, d11, d22, iT, iF])
theorem q_cell (h : ShR SO LE RO qs qz it) (x y : Int32) (v : Int64) : ∃ r RO' it', xX7_cell SO LE RO x y v = some (r, RO') ∧ xX8_cell qs qz it x y v = some (r, it') ∧ ShR SO LE RO' qs qz it' := by
  unfold xX8_cell
  rw [m_isSheet]
  rcases arg_ix x (n := 4) (by decide) with hx | ⟨i, hi, rfl⟩
  · unfold xX7_cell
    rw [c_isSheetN hx, bn1_s, bn1_s, if_pos zero_eq, if_pos zero_eq]
    exact ⟨_, _, _, rfl, rfl, h⟩
  · obtain ⟨eS, eL, hso, k, hk, ek, hk0, hr⟩ := h i hi
    obtain ⟨g1, g2⟩ := has_k hk y
    rw [c_cell hi, c_isSheet hi, bn1_s, if_neg one_ne, ix_nI (by omega) hi, grd_t, grd_t, grd_t, nI_clE (by omega), ← eS, ← eL, ek]
    unfold xX5_isMissing
    by_cases hm : SO i = -1
    · rw [if_pos hm, if_pos hm, bn1_s, if_neg one_ne]
      exact ⟨_, _, _, rfl, rfl, h⟩
    · rw [if_neg hm, if_neg hm, bn1_s, if_pos zero_eq, m_in, bn1_s, ite10]
      unfold xX5_put
      by_cases z : 0 ≤ y ∧ y ≤ nI k - 1
      · obtain ⟨j, hj, rfl⟩ := g2 z
        have a : (40 : Int32) * nI i + nI j = nI (40 * i + j) := by rw [L40, nI_mulE, nI_addE]
        rw [if_pos z, if_neg (nI_pos (by omega)), if_neg (by rw [nI_leE (by omega) (by omega)]; omega), if_pos (by rw [L40, nI_ltE (by omega) (by omega)]; omega), a, ix_nI (by omega) (by omega), ix_nI (by omega) (by omega), nI_clE (by omega), nI_clE (by omega)]
        by_cases s0 : SO i = 0
        · rw [if_pos s0, if_pos s0, grd_t, grd_t, lt1_s, lt1_s, bn2_s, if_neg one_ne]
          exact ⟨_, _, _, rfl, rfl, sh_upd h (by omega) _⟩
        · rw [if_neg s0, if_neg s0, grd_t, grd_t, lt1_s, lt1_s, bn2_s, if_neg one_ne]
          exact ⟨_, _, _, rfl, rfl, sh_upd h (by omega) _⟩
      · have hp : (if y < 0 then some ((0 : Int32), RO i) else if nI k ≤ y then some (0, RO i) else if y < 40 then if SO i = 0 then grd (ix y 40) (lt1 (vp_updL (RO i) y.toNatClampNeg v.toInt32.toInt64) fun ro9 => some (1, ro9)) else grd (ix y 40) (lt1 (vp_updL (RO i) y.toNatClampNeg v) fun ro6 => some (1, ro6)) else some (0, RO i)) = some (0, RO i) := by
          have g3 := g1
          unfold xX5_has at g3
          rw [if_neg z] at g3
          by_cases y0 : y < 0
          · rw [if_pos y0]
          · rw [if_neg y0]
            rw [if_neg y0] at g3
            by_cases y1 : nI k ≤ y
            · rw [if_pos y1]
            · rw [if_neg y1]
              rw [if_neg y1] at g3
              by_cases y2 : (40 : Int32) ≤ y
              · rw [if_neg (by rw [Int32.lt_iff_toInt_lt]; rw [Int32.le_iff_toInt_le] at y2; omega)]
              · rw [if_neg y2] at g3
                exact absurd (Option.some.inj g3) one_ne
        rw [if_neg z, hp, bn2_s, if_pos zero_eq]
        exact ⟨_, _, _, rfl, rfl, sh_same h i⟩
theorem c_layOut {so le p2 : Int32} {ro : Nat → Int64} {k : Nat} (hk : k ≤ 40) : ∃ ro', xX5_layOut so le ro p2 (nI k) = some (p2, nI k, ro') ∧ ∀ j, j < 40 → ro' j = 0 := by
  have e0 : (if 0 < (if 40 < nI k then (40 : Int32) else nI k) then (if 40 < nI k then (40 : Int32) else nI k) else 0) = nI k := by
    rw [if_neg (show ¬ (40 : Int32) < nI k by rw [L40, nI_ltE (by omega) (by omega)]; omega)]
    rcases Nat.eq_zero_or_pos k with z | z
    · subst z; rfl
    · rw [if_pos (by rw [L0, nI_ltE (by omega) (by omega)]; exact z)]
  have h := loopI (fun m i (g : Nat → Int64) => xX5_layOut_21 m (nI i) p2 (nI k) g) (fun i g => ∀ j, j < i → g j = 0) 40 (fun m i g hi hI => ⟨vp_updL g i 0, by
    show xX5_layOut_21 (m + 1) (nI i) p2 (nI k) g = _
    rw [xX5_layOut_21, if_neg (by rw [L40, nI_leE (by omega) (by omega)]; omega), ix_nI (by omega) (by omega), grd_t, lt1_s, nI_clE (by omega), show nI i + 1 = nI (i + 1) from nI_succE i], fun j hj => by
    by_cases e : j = i
    · rw [e, pk_uLs]
    · rw [pk_uLn e]; exact hI j (by omega)⟩) 40 600 0 ro (by omega) (by omega) (fun j hj => by omega)
  obtain ⟨m, g, e, hg⟩ := h
  refine ⟨g, ?_, hg⟩
  unfold xX5_layOut
  rw [lt1_s, lt1_s, e0]
  refine e.trans ?_
  show xX5_layOut_21 (m + 1) (nI 40) p2 (nI k) g = _
  rw [xX5_layOut_21, if_pos (by rw [L40, nI_leE (by omega) (by omega)]; omega)]
theorem m_makes {i : Nat} (hi : i < 4) (a b : Int32) : ∃ it', xX8_makes qs qz it (nI i) a b = some (upd qs i a, upd qz i b, it') ∧ (∀ j, j < 40 → it' (40 * i + j) = 0) ∧ ∀ j, (j < 40 * i ∨ 40 * i + 40 ≤ j) → it' j = it j := by
  have h := loopI (fun m j (g : Nat → Int64) => xX8_makes_17 m (nI i) (nI j) (upd qs i a) (upd qz i b) g) (fun n g => (∀ j, j < n → g (40 * i + j) = 0) ∧ ∀ j, (j < 40 * i ∨ 40 * i + 40 ≤ j) → g j = it j) 40 (fun m n g hn hI => ⟨vp_updL g (40 * i + n) 0, by
    have e : (40 : Int32) * nI i + nI n = nI (40 * i + n) := by rw [L40, nI_mulE, nI_addE]
    show xX8_makes_17 (m + 1) (nI i) (nI n) (upd qs i a) (upd qz i b) g = _
    rw [xX8_makes_17, if_neg (by rw [L40, nI_leE (by omega) (by omega)]; omega), e, ix_nI (by omega) (by omega), grd_t, lt1_s, nI_clE (by omega), show nI n + 1 = nI (n + 1) from nI_succE n], fun j hj => by
    by_cases e : j = n
    · rw [e, pk_uLs]
    · rw [pk_uLn (by omega)]; exact hI.1 j (by omega), fun j hj => by
    rw [pk_uLn (by omega)]; exact hI.2 j hj⟩) 40 600 0 it (by omega) (by omega) ⟨fun j hj => by omega, fun j hj => rfl⟩
  obtain ⟨m, g, e, h1, h2⟩ := h
  refine ⟨g, ?_, h1, h2⟩
  unfold xX8_makes
  rw [ix_nI (by omega) hi, grd_t, lt1_s, grd_t, lt1_s, nI_clE (by omega)]
  refine e.trans ?_
  show xX8_makes_17 (m + 1) (nI i) (nI 40) (upd qs i a) (upd qz i b) g = _
  rw [xX8_makes_17, if_pos (by rw [L40, nI_leE (by omega) (by omega)]; omega)]
end
