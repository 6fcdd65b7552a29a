/-! ===== the reference's row of numbers tells of the same pool ===== -/
abbrev RSt := Nat → Int32
def Sim (P : PSt) (s : RSt) : Prop := (s 0 = P 9 0 ∧ s 1 = P 10 0) ∧ (∀ t, t < 20 → s (2 + t) = P 0 t) ∧ (∀ t, t < 20 → P 0 t ≠ m1 → s (22 + t) = P 1 t ∧ s (42 + t) = P 2 t ∧ s (62 + t) = P 3 t ∧ s (82 + t) = P 5 t ∧ s (102 + t) = P 4 t) ∧ (∀ t k, t < 20 → k < 12 → hs P t → s (122 + 12 * t + k) = P 6 (t * 12 + k)) ∧ (∀ b, b < 96 → s (362 + b) = P 7 b) ∧ (∀ b, b < 96 → P 7 b ≠ 0 → s (458 + b) = P 8 b)
def under (a b : Int32) : Prop := a = b ∨ (a = 1 ∧ b = 0) ∨ (a = 3 ∧ b = 2)
theorem m_in (x a b : Int32) : xX8_in x a b = some (if a ≤ x ∧ x ≤ b then 1 else 0) := by
  unfold xX8_in
  by_cases h1 : x < a
  · rw [if_pos h1, if_neg]
    rw [Int32.lt_iff_toInt_lt] at h1
    rw [Int32.le_iff_toInt_le]
    omega
  · rw [if_neg h1]
    by_cases h2 : b < x
    · rw [if_pos h2, if_neg]
      rw [Int32.lt_iff_toInt_lt] at h2
      rw [Int32.le_iff_toInt_le, Int32.le_iff_toInt_le]
      omega
    · rw [if_neg h2, if_pos]
      rw [Int32.lt_iff_toInt_lt] at h1 h2
      rw [Int32.le_iff_toInt_le, Int32.le_iff_toInt_le]
      omega
theorem in_nI {t lo hi : Nat} (h1 : lo ≤ t) (h2 : t ≤ hi) (h3 : hi < 2147483648) : nI lo ≤ nI t ∧ nI t ≤ nI hi := by
  rw [nI_leE (by omega) (by omega), nI_leE (by omega) (by omega)]
  exact ⟨h1, h2⟩
theorem out_19 {x : Int32} (h : x < 0 ∨ nI 20 ≤ x) : ¬ (0 ≤ x ∧ x ≤ 19) := by
  rintro ⟨h1, h2⟩
  rw [Int32.le_iff_toInt_le] at h1 h2
  rw [show (0 : Int32).toInt = 0 by decide] at h1
  rw [show (19 : Int32).toInt = 19 by decide] at h2
  rcases h with h | h
  · rw [Int32.lt_iff_toInt_lt, show (0 : Int32).toInt = 0 by decide] at h
    omega
  · rw [Int32.le_iff_toInt_le, nI_toInt (by decide)] at h
    omega
section
variable {P : PSt} {s : RSt}
theorem m_isThing (hS : Sim P s) (x : Int32) : xX8_isThing s x = some (if rd 20 (P 0) m1 x = m1 then 0 else 1) := by
  unfold xX8_isThing
  rw [m_in, bn1_s]
  rcases arg_ix x (n := 20) (by decide) with h | ⟨t, ht, rfl⟩
  · rw [if_neg (out_19 h), if_pos rfl, rd_o h, if_pos rfl]
  · rw [if_pos (show (0 : Int32) ≤ nI t ∧ nI t ≤ 19 from in_nI (lo := 0) (hi := 19) (by omega) (by omega) (by decide)), if_neg (by decide), rd_nI (by decide) ht]
    have h := hS.2.1 t ht
    simp (disch := omega) only [L0, L1, L2, L3, L4, L5, L8, L9, L10, L11, L12, L19, L20, L22, L40, L42, L60, L62, L82, L95, L96, L100, L102, L122, L240, L256, L362, L458, L554, L1000000000, L100000, Lm1, nI_addE, nI_mulE, nI_inj, nI_ltE, nI_leE, nI_clE, nI_m1, m1_nI, m1_lt, m1_le, nI_lt_m1, nI_le_m1, ix_nI, dT_le, dF_le, dT_lt, dF_lt, dT_eq, dF_eq, iT, iF, grd_t, lt1_s, bn1_s, bn2_s, bn3_s, bn4_s, bn5_s, nI_add0, h]
    by_cases h2 : P 0 t = m1
    · rw [if_pos h2, if_pos h2]
    · rw [if_neg h2, if_neg h2]
theorem m_isUnder (a b : Int32) [Decidable (under a b)] : xX8_isUnder a b = some (if under a b then 1 else 0) := by
  unfold xX8_isUnder xX8_isUnder_14
  by_cases h1 : a = b
  · rw [if_pos h1, if_pos (show under a b from Or.inl h1)]
  · rw [if_neg h1]
    by_cases h2 : a = 1
    · rw [if_pos h2]
      by_cases h3 : b = 0
      · rw [if_pos h3, if_pos (show under a b from Or.inr (Or.inl ⟨h2, h3⟩))]
      · rw [if_neg h3, if_neg (by rw [h2]; decide), if_neg]
        rintro (z | z | z)
        · exact h1 z
        · exact h3 z.2
        · rw [h2] at z; exact absurd z.1 (by decide)
    · rw [if_neg h2]
      by_cases h3 : a = 3
      · rw [if_pos h3]
        by_cases h4 : b = 2
        · rw [if_pos h4, if_pos (show under a b from Or.inr (Or.inr ⟨h3, h4⟩))]
        · rw [if_neg h4, if_neg]
          rintro (z | z | z)
          · exact h1 z
          · exact h2 z.1
          · exact h4 z.2
      · rw [if_neg h3, if_neg]
        rintro (z | z | z)
        · exact h1 z
        · exact h2 z.1
        · exact h3 z.1
theorem under0 {a : Int32} : under a 0 ↔ (a = 0 ∨ a = 1) := by
  unfold under
  constructor
  · rintro (z | z | z)
    · exact Or.inl z
    · exact Or.inr z.1
    · exact absurd z.2 (by decide)
  · rintro (z | z)
    · exact Or.inl z
    · exact Or.inr (Or.inl ⟨z, rfl⟩)
theorem under2 {a : Int32} : under a 2 ↔ (a = 2 ∨ a = 3) := by
  unfold under
  constructor
  · rintro (z | z | z)
    · exact Or.inl z
    · exact absurd z.2 (by decide)
    · exact Or.inr z.1
  · rintro (z | z)
    · exact Or.inl z
    · exact Or.inr (Or.inr ⟨z, rfl⟩)
theorem m_isFiles (hS : Sim P s) (x : Int32) : xX8_isFiles s x = some (if rd 20 (P 0) m1 x = 0 ∨ rd 20 (P 0) m1 x = 1 then 1 else 0) := by
  unfold xX8_isFiles
  rw [m_isThing hS, bn1_s]
  rcases arg_ix x (n := 20) (by decide) with h | ⟨t, ht, rfl⟩
  · rw [rd_o h, if_pos rfl, if_pos rfl, if_neg (by decide)]
  · rw [rd_nI (by decide) ht]
    have h := hS.2.1 t ht
    by_cases h2 : P 0 t = m1
    · rw [if_pos h2, if_pos rfl, h2, if_neg (by decide)]
    · rw [if_neg h2, if_neg (by decide)]
      have e : (2 : Int32) + nI t = nI (2 + t) := nI_addE 2 t
      rw [e, ix_nI (by omega) (by omega), grd_t, nI_clE (by omega), h]
      haveI : Decidable (under (P 0 t) 0) := Classical.propDecidable _
      rw [m_isUnder, bn1_s]
      by_cases h3 : P 0 t = 0 ∨ P 0 t = 1
      · rw [if_pos (under0.mpr h3), if_pos h3, if_neg (by decide)]
      · rw [if_neg (fun z => h3 (under0.mp z)), if_neg h3, if_pos rfl]
theorem m_isSnapshot (hS : Sim P s) (x : Int32) : xX8_isSnapshot s x = some (if rd 20 (P 0) m1 x = 2 ∨ rd 20 (P 0) m1 x = 3 then 1 else 0) := by
  unfold xX8_isSnapshot
  rw [m_isThing hS, bn1_s]
  rcases arg_ix x (n := 20) (by decide) with h | ⟨t, ht, rfl⟩
  · rw [rd_o h, if_pos rfl, if_pos rfl, if_neg (by decide)]
  · rw [rd_nI (by decide) ht]
    have h := hS.2.1 t ht
    by_cases h2 : P 0 t = m1
    · rw [if_pos h2, if_pos rfl, h2, if_neg (by decide)]
    · rw [if_neg h2, if_neg (by decide)]
      have e : (2 : Int32) + nI t = nI (2 + t) := nI_addE 2 t
      rw [e, ix_nI (by omega) (by omega), grd_t, nI_clE (by omega), h]
      haveI : Decidable (under (P 0 t) 2) := Classical.propDecidable _
      rw [m_isUnder, bn1_s]
      by_cases h3 : P 0 t = 2 ∨ P 0 t = 3
      · rw [if_pos (under2.mpr h3), if_pos h3, if_neg (by decide)]
      · rw [if_neg (fun z => h3 (under2.mp z)), if_neg h3, if_pos rfl]
/-- has it slots, by its kind -/
def hsk (k : Int32) : Bool := decide ((k = 0 ∨ k = 1) ∨ (k = 2 ∨ k = 3))
theorem hsk_hs {t : Nat} : hsk (P 0 t) = true ↔ hs P t := by
  unfold hsk hs isF isS
  rw [decide_eq_true_eq]
theorem m_hasSlots (hS : Sim P s) (x : Int32) : xX8_hasSlots s x = some (if hsk (rd 20 (P 0) m1 x) then 1 else 0) := by
  unfold xX8_hasSlots hsk
  rw [m_isFiles hS, bn1_s, m_isSnapshot hS]
  by_cases h1 : rd 20 (P 0) m1 x = 0 ∨ rd 20 (P 0) m1 x = 1
  · rw [if_pos h1, if_neg (by decide), if_pos (by rw [decide_eq_true_eq]; exact Or.inl h1)]
  · rw [if_neg h1, if_pos rfl, bn1_s]
    by_cases h2 : rd 20 (P 0) m1 x = 2 ∨ rd 20 (P 0) m1 x = 3
    · rw [if_pos h2, if_neg (by decide), if_pos (by rw [decide_eq_true_eq]; exact Or.inr h2)]
    · rw [if_neg h2, if_pos rfl, if_neg (by rw [decide_eq_true_eq]; exact fun z => z.elim h1 h2)]
theorem m_hasT (hS : Sim P s) {t : Nat} (ht : t < 20) : xX8_hasSlots s (nI t) = some (if hsk (P 0 t) then 1 else 0) := by
  rw [m_hasSlots hS, rd_nI (by decide) ht]
/-! refusals -/
def refN (P : PSt) (x : Int32) : Int32 := if x < 0 ∨ nI 20 ≤ x then -12 else if rd 20 (P 0) m1 x = m1 then -11 else 0
theorem c_refN (x : Int32) : xX4_refusalOfNumber P x = some (refN P x) := by
  unfold xX4_refusalOfNumber refN
  rcases arg_ix x (n := 20) (by decide) with h | ⟨t, ht, rfl⟩
  · rw [if_pos h]
    by_cases h0 : x < 0
    · rw [if_pos h0]
    · rw [if_neg h0, if_neg]
      rcases h with h | h
      · exact absurd h h0
      · rw [Int32.lt_iff_toInt_lt]
        rw [Int32.le_iff_toInt_le] at h
        rw [show (nI 20).toInt = (20 : Int32).toInt from rfl] at h
        omega
  · rw [if_neg (show ¬ (nI t < 0 ∨ nI 20 ≤ nI t) by rintro (z | z); exact nI_pos (by omega) z; rw [nI_leE (by omega) (by omega)] at z; omega), rd_nI (by decide) ht]
    simp (disch := omega) only [L0, L1, L2, L3, L4, L5, L8, L9, L10, L11, L12, L19, L20, L22, L40, L42, L60, L62, L82, L95, L96, L100, L102, L122, L240, L256, L362, L458, L554, L1000000000, L100000, Lm1, nI_addE, nI_mulE, nI_inj, nI_ltE, nI_leE, nI_clE, nI_m1, m1_nI, m1_lt, m1_le, nI_lt_m1, nI_le_m1, ix_nI, dT_le, dF_le, dT_lt, dF_lt, dT_eq, dF_eq, iT, iF, grd_t, lt1_s, bn1_s, bn2_s, bn3_s, bn4_s, bn5_s, nI_add0]
    by_cases h2 : P 0 t = m1
    · rw [if_pos h2, if_pos h2]
    · rw [if_neg h2, if_neg h2]
theorem m_there (hS : Sim P s) (x : Int32) : xX8_there s x = some (refN P x) := by
  unfold xX8_there refN
  rw [m_in, bn1_s, m_isThing hS]
  rcases arg_ix x (n := 20) (by decide) with h | ⟨t, ht, rfl⟩
  · rw [if_pos h, if_neg (out_19 h), if_pos rfl]
  · rw [if_pos (show (0 : Int32) ≤ nI t ∧ nI t ≤ 19 from in_nI (lo := 0) (hi := 19) (by omega) (by omega) (by decide)), if_neg (by decide), bn1_s, if_neg (show ¬ (nI t < 0 ∨ nI 20 ≤ nI t) by rintro (z | z); exact nI_pos (by omega) z; rw [nI_leE (by omega) (by omega)] at z; omega)]
    split <;> rfl
theorem refN_ok {x : Int32} (h : refN P x = 0) : ∃ t, t < 20 ∧ x = nI t ∧ P 0 t ≠ m1 := by
  unfold refN at h
  rcases arg_ix x (n := 20) (by decide) with h1 | ⟨t, ht, rfl⟩
  · rw [if_pos h1] at h; exact absurd h (by decide)
  · refine ⟨t, ht, rfl, fun z => ?_⟩
    rw [if_neg (show ¬ (nI t < 0 ∨ nI 20 ≤ nI t) by rintro (z | z); exact nI_pos (by omega) z; rw [nI_leE (by omega) (by omega)] at z; omega), rd_nI (by decide) ht, if_pos z] at h
    exact absurd h (by decide)
noncomputable def refA (P : PSt) (x a : Int32) : Int32 := if refN P x = 0 then (@ite _ (under (rd 20 (P 0) m1 x) a) (Classical.propDecidable _) 0 (-13)) else refN P x
theorem c_refA (x a : Int32) : xX4_refusalAs P x a = some (refA P x a) := by
  unfold xX4_refusalAs refA
  rw [c_refN, bn1_s]
  by_cases h : refN P x = 0
  · rw [if_pos h, if_pos h, c_kindOf, bn1_s]
    generalize rd 20 (P 0) m1 x = k
    unfold xX4_refusalAs_51 xX4_refusalAs_35
    by_cases h1 : k = a
    · rw [if_pos h1, if_pos (show under k a from Or.inl h1)]; rfl
    · rw [if_neg h1]
      by_cases h2 : k = 1
      · rw [if_pos h2]
        by_cases h3 : a = 0
        · rw [if_pos h3, if_pos (show under k a from Or.inr (Or.inl ⟨h2, h3⟩))]; rfl
        · rw [if_neg h3, if_neg (by rw [h2]; decide), if_neg (show ¬ under k a from by
            rintro (z | z | z)
            · exact h1 z
            · exact h3 z.2
            · rw [h2] at z; exact absurd z.1 (by decide))]
          rfl
      · rw [if_neg h2]
        by_cases h3 : k = 3
        · rw [if_pos h3]
          by_cases h4 : a = 2
          · rw [if_pos h4, if_pos (show under k a from Or.inr (Or.inr ⟨h3, h4⟩))]; rfl
          · rw [if_neg h4, if_neg (show ¬ under k a from by
              rintro (z | z | z)
              · exact h1 z
              · exact h2 z.1
              · exact h4 z.2)]
            rfl
        · rw [if_neg h3, if_neg (show ¬ under k a from by
            rintro (z | z | z)
            · exact h1 z
            · exact h2 z.1
            · exact h3 z.1)]
          rfl
  · rw [if_neg h, if_neg h]
theorem m_asked (hS : Sim P s) (x a : Int32) : xX8_asked s x a = some (refA P x a) := by
  unfold xX8_asked refA
  rw [m_there hS, bn1_s]
  by_cases h : refN P x = 0
  · rw [if_pos h, if_pos h]
    obtain ⟨t, ht, rfl, hk⟩ := refN_ok h
    have e : (2 : Int32) + nI t = nI (2 + t) := nI_addE 2 t
    haveI : Decidable (under (P 0 t) a) := Classical.propDecidable _
    rw [e, ix_nI (by omega) (by omega), grd_t, nI_clE (by omega), hS.2.1 t ht, m_isUnder, bn1_s, rd_nI (by decide) ht]
    by_cases h3 : under (P 0 t) a
    · rw [if_pos h3, if_pos h3, if_neg (by decide)]
    · rw [if_neg h3, if_neg h3, if_pos rfl]
  · rw [if_neg h, if_neg h]
theorem refA_ok {x a : Int32} (h : refA P x a = 0) : ∃ t, t < 20 ∧ x = nI t ∧ P 0 t ≠ m1 ∧ under (P 0 t) a := by
  unfold refA at h
  by_cases h1 : refN P x = 0
  · rw [if_pos h1] at h
    obtain ⟨t, ht, rfl, hk⟩ := refN_ok h1
    refine ⟨t, ht, rfl, hk, ?_⟩
    rw [rd_nI (by decide) ht] at h
    rcases Classical.em (under (P 0 t) a) with z | z
    · exact z
    · rw [if_neg z] at h; exact absurd h (by decide)
  · rw [if_neg h1] at h; exact absurd h h1
def refH (P : PSt) (x : Int32) : Int32 := if refN P x = 0 then (if rd 20 (P 0) m1 x = 4 then -13 else 0) else refN P x
theorem c_refH (x : Int32) : xX4_refusalAsHolder P x = some (refH P x) := by
  unfold xX4_refusalAsHolder refH
  rw [c_refN, bn1_s]
  by_cases h : refN P x = 0
  · rw [if_pos h, if_pos h, c_kindOf, bn1_s]
    split <;> rfl
  · rw [if_neg h, if_neg h]
theorem m_askedSlots (hS : Sim P s) (hI : I_kind P) (x : Int32) : xX8_askedSlots s x = some (refH P x) := by
  unfold xX8_askedSlots refH
  rw [m_there hS, bn1_s, m_hasSlots hS]
  by_cases h : refN P x = 0
  · rw [if_pos h, if_pos h, bn1_s]
    obtain ⟨t, ht, rfl, hk⟩ := refN_ok h
    rw [rd_nI (by decide) ht]
    rcases hI t ht with z | z | z
    · exact absurd z hk
    · rw [if_pos (hsk_hs.mpr z), if_neg (by decide), if_neg (s4 z)]
    · rw [if_neg (fun y => nhs_4 z (hsk_hs.mp y)), if_pos rfl, if_pos z]
  · rw [if_neg h, if_neg h]
theorem refH_ok (hI : I_kind P) {x : Int32} (h : refH P x = 0) : ∃ t, t < 20 ∧ x = nI t ∧ hs P t := by
  unfold refH at h
  by_cases h1 : refN P x = 0
  · rw [if_pos h1] at h
    obtain ⟨t, ht, rfl, hk⟩ := refN_ok h1
    refine ⟨t, ht, rfl, ?_⟩
    rw [rd_nI (by decide) ht] at h
    rcases hI t ht with z | z | z
    · exact absurd z hk
    · exact z
    · rw [if_pos z] at h; exact absurd h (by decide)
  · rw [if_neg h1] at h; exact absurd h h1
end
