/-! ===== sheets: sheet ===== -/
section
variable {SO LE : RSt} {RO : Nat → Nat → Int64} {qs qz : RSt} {it : Nat → Int64}
theorem c_sheet {i : Nat} {p2 p3 : Int32} (hi : i < 4) : xX7_sheet SO LE RO (nI i) p2 p3 = if p2 < (-1) then some ((-2), SO, LE, RO) else if p2 ≤ 1 then if p2 = (-1) then bn2 (xX5_layAside (SO i) (LE i)) (fun a b => some (1, upd SO i a, upd LE i b, RO)) else if p3 ≤ 40 then if (0 : Int32) ≤ p3 then bn3 (xX5_layOut (SO i) (LE i) (RO i) p2 p3) (fun a b c => some (1, upd SO i a, upd LE i b, stRL RO i c)) else some ((-14), SO, LE, RO) else some ((-2), SO, LE, RO) else some ((-2), SO, LE, RO) := by
  have h4 : ix (nI i) 4 = true := ix_nI (by omega) hi
  have hs := c_isSheet hi
  rcases (show i = 0 ∨ i = 1 ∨ i = 2 ∨ i = 3 by omega) with h | h | h | h <;> (subst h; simp only [xX7_sheet, hs, h4, bn1_s, grd_t, lt1_s, dl10, d10, d20, d30, d21, d31, d32, d00, d11, d22, iT, iF])
/-- one sheet made anew on both sides -/
theorem sh_new (h : ShR SO LE RO qs qz it) {i : Nat} {so : Int32} {k : Nat} {ro it' : Nat → Int64} (hso : so = m1 ∨ so = 0 ∨ so = 1) (hk : k ≤ 40) (hk0 : so = m1 → k = 0) (hr : ∀ j, j < k → ro j = it' (40 * i + j)) (hi' : ∀ j, (j < 40 * i ∨ 40 * i + 40 ≤ j) → it' j = it j) : ShR (upd SO i so) (upd LE i (nI k)) (stRL RO i ro) (upd qs i so) (upd qz i (nI k)) it' := by
  intro a ha
  by_cases e : a = i
  · subst e
    rw [upd_eq, upd_eq, upd_eq, upd_eq, stRL_eq]
    exact ⟨rfl, rfl, hso, k, hk, rfl, hk0, hr⟩
  · rw [upd_ne e, upd_ne e, upd_ne e, upd_ne e, stRL_ne e]
    obtain ⟨eS, eL, hso, k', hk', ek, hk0', hr'⟩ := h a ha
    refine ⟨eS, eL, hso, k', hk', ek, hk0', fun j hj => ?_⟩
    rw [hi' (40 * a + j) (by omega)]
    exact hr' j hj
theorem sh_aside (h : ShR SO LE RO qs qz it) {i : Nat} {it' : Nat → Int64} (hi' : ∀ j, (j < 40 * i ∨ 40 * i + 40 ≤ j) → it' j = it j) : ShR (upd SO i m1) (upd LE i (nI 0)) RO (upd qs i m1) (upd qz i (nI 0)) it' := by
  have h2 := sh_new (so := m1) (k := 0) (ro := RO i) (sh_same h i) (i := i) (Or.inl rfl) (by omega) (fun _ => rfl) (fun j hj => by omega) hi'
  have e : stRL (stRL RO i (RO i)) i (RO i) = RO := by
    funext a
    by_cases e : a = i
    · subst e; exact stRL_eq
    · rw [stRL_ne e, stRL_ne e]
  rw [e] at h2
  exact h2
theorem q_sheet (h : ShR SO LE RO qs qz it) (x p2 p3 : Int32) : ∃ r SO' LE' RO' qs' qz' it', xX7_sheet SO LE RO x p2 p3 = some (r, SO', LE', RO') ∧ xX8_sheet qs qz it x p2 p3 = some (r, qs', qz', it') ∧ ShR SO' LE' RO' qs' qz' it' := by
  unfold xX8_sheet
  rw [m_isSheet]
  rcases arg_ix x (n := 4) (by decide) with hx | ⟨i, hi, rfl⟩
  · unfold xX7_sheet
    rw [c_isSheetN hx, bn1_s, bn1_s, if_pos zero_eq, if_pos zero_eq]
    exact ⟨_, _, _, _, _, _, _, rfl, rfl, h⟩
  rw [c_sheet hi, c_isSheet hi, bn1_s, if_neg one_ne, m_in, bn1_s, ite10]
  have hlt : (p2 < -1) ↔ ¬ (-1 ≤ p2) := by rw [Int32.lt_iff_toInt_lt, Int32.le_iff_toInt_le]; omega
  by_cases a1 : (-1 : Int32) ≤ p2
  · rw [if_neg (fun w => hlt.mp w a1)]
    by_cases a2 : p2 ≤ 1
    · rw [if_pos a2, if_pos (show (-1 : Int32) ≤ p2 ∧ p2 ≤ 1 from ⟨a1, a2⟩)]
      unfold xX8_sheet_30 xX8_sheet_42 xX8_sheet_55
      by_cases a3 : p2 = -1
      · rw [if_pos a3, if_pos a3, if_pos a3, if_pos a3]
        obtain ⟨it', e1, h1, h2⟩ := m_makes (qs := qs) (qz := qz) (it := it) hi p2 0
        rw [e1, bn3_s]
        unfold xX5_layAside
        rw [lt1_s, lt1_s, bn2_s]
        refine ⟨_, _, _, _, _, _, _, rfl, rfl, ?_⟩
        rw [a3]
        exact sh_aside h h2
      · rw [if_neg a3, if_neg a3]
        by_cases a4 : p3 ≤ 40
        · rw [if_pos a4, if_pos a4, if_neg a3, if_neg a3]
          by_cases a5 : (0 : Int32) ≤ p3
          · rw [if_pos a5, if_pos a5]
            obtain ⟨k, hk, rfl⟩ := in_ex (n := 40) (by decide) ⟨a5, a4⟩
            obtain ⟨it', e1, h1, h2⟩ := m_makes (qs := qs) (qz := qz) (it := it) hi p2 (nI k)
            obtain ⟨ro', e2, h3⟩ := c_layOut (so := SO i) (le := LE i) (p2 := p2) (ro := RO i) hk
            rw [e1, e2, bn3_s, bn3_s]
            have hso : p2 = m1 ∨ p2 = 0 ∨ p2 = 1 := by
              rw [Int32.le_iff_toInt_le] at a1 a2
              rw [show (-1 : Int32).toInt = -1 by decide] at a1
              rw [show (1 : Int32).toInt = 1 by decide] at a2
              have : p2.toInt = -1 ∨ p2.toInt = 0 ∨ p2.toInt = 1 := by omega
              rcases this with w | w | w
              · exact Or.inl (Int32.toInt_inj.mp (w.trans (by decide)))
              · exact Or.inr (Or.inl (Int32.toInt_inj.mp (w.trans (by decide))))
              · exact Or.inr (Or.inr (Int32.toInt_inj.mp (w.trans (by decide))))
            exact ⟨_, _, _, _, _, _, _, rfl, rfl, sh_new h hso hk (fun w => absurd w a3) (fun j hj => by rw [h3 j (by omega), h1 j (by omega)]) h2⟩
          · rw [if_neg a5, if_neg a5]
            exact ⟨_, _, _, _, _, _, _, rfl, rfl, h⟩
        · rw [if_neg a4, if_neg a4]
          exact ⟨_, _, _, _, _, _, _, rfl, rfl, h⟩
    · rw [if_neg a2, if_neg (fun w => a2 w.2)]
      exact ⟨_, _, _, _, _, _, _, rfl, rfl, h⟩
  · rw [if_pos (hlt.mpr a1), if_neg (fun w => a1 w.1)]
    exact ⟨_, _, _, _, _, _, _, rfl, rfl, h⟩
end
