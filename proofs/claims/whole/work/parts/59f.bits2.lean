/-! ===== bits of small numbers ===== -/
theorem bA : ∀ c, c < 256 → ∀ i, i < 8 → ((nI c &&& ((1 : Int32) <<< (nI i &&& 31))) = 0 ↔ c.testBit i = false) := by decide +kernel
theorem bB : ∀ c, c < 256 → ∀ i, i < 8 → c.testBit i = true → nI c &&& (((1 : Int32) <<< (nI i &&& 31)) ^^^ (-1)) = nI (c - 2 ^ i) ∧ c - 2 ^ i < c := by decide +kernel
theorem bB2 : ∀ c, c < 256 → ∀ i, i < 8 → c.testBit i = true → ∀ j, j < 8 → (c - 2 ^ i).testBit j = (c.testBit j && !(decide (j = i))) := by decide +kernel
theorem bC : ∀ y, y < 256 → ∀ i, i < 8 → nI y ||| ((1 : Int32) <<< (nI i &&& 31)) = nI (y ||| 2 ^ i) := by decide +kernel
theorem bD : ∀ c, c < 256 → xJ6_bitCount_0f7a4 (nI c) = some (nI (cnt (fun i => c.testBit i) 8)) := by decide +kernel
theorem bF : ∀ c, c < 256 → ∀ i, i < 8 → ((nI c >>> (nI i &&& 31)) &&& 1) = nI (if c.testBit i then 1 else 0) := by decide +kernel
theorem bQ : ∀ c, c < 256 → ∀ i, i < 32 → qb (nI c) i = c.testBit i := by decide +kernel
theorem bSub {y r : Nat} (hy : y < 256) (hr : r < 256) : (nI y &&& (nI r ^^^ (-1)) = 0) ↔ ∀ j, j < 8 → y.testBit j = true → r.testBit j = true := by
  rw [qb_zero]
  constructor
  · intro h j hj hb
    have := h j (by omega)
    rw [qb_and, qb_xor, qb_m1 j (by omega), bQ y hy j (by omega), bQ r hr j (by omega), hb] at this
    cases hq : r.testBit j with
    | true => rfl
    | false => rw [hq] at this; cases this
  · intro h j hj
    rw [qb_and, qb_xor, qb_m1 j hj, bQ y hy j hj, bQ r hr j hj]
    rcases Nat.lt_or_ge j 8 with q | q
    · cases hb : y.testBit j with
      | false => rfl
      | true => rw [h j q hb]; rfl
    · rw [bit_hi (d := 8) hy q]; rfl
theorem m_countOf {c : Nat} (hc : c < 256) : xX8_countOf (nI c) = some (nI (cnt (fun i => c.testBit i) 8)) := by
  unfold xX8_countOf
  refine loop0 (fun m i r => xX8_countOf_4 m (nI c) r (nI i)) (fun i => nI (cnt (fun j => c.testBit j) i)) _ 8 600 (by decide) ?_ ?_
  · intro m i hi
    show xX8_countOf_4 (m + 1) (nI c) (nI (cnt (fun j => c.testBit j) i)) (nI i) = xX8_countOf_4 m (nI c) (nI (cnt (fun j => c.testBit j) (i + 1))) (nI (i + 1))
    rw [xX8_countOf_4, if_neg (show ¬ (8 : Int32) ≤ nI i by rw [L8, nI_leE (by omega) (by omega)]; omega), bF c hc i hi, nI_addE, show nI i + 1 = nI (i + 1) from nI_succE i, cnt_s]
  · intro m
    show xX8_countOf_4 (m + 1) (nI c) (nI (cnt (fun j => c.testBit j) 8)) (nI 8) = _
    rw [xX8_countOf_4, if_pos (show (8 : Int32) ≤ nI 8 by decide)]
def ful (C : RSt) (d t : Nat) : Bool := decide (0 < cnt (fun i => decide (C i = nI t)) d)
theorem ful_iff {C : RSt} {d t : Nat} : ful C d t = true ↔ ∃ i, i < d ∧ C i = nI t := by
  unfold ful
  rw [decide_eq_true_eq, cnt_pos]
  constructor
  · rintro ⟨i, hi, h⟩
    exact ⟨i, hi, of_decide_eq_true h⟩
  · rintro ⟨i, hi, h⟩
    exact ⟨i, hi, decide_eq_true h⟩
/-- which of an enumeration hold a block -/
def cbn (P : PSt) (C : RSt) (b : Nat) : Nat → Nat
  | 0 => 0
  | i + 1 => cbn P C b i ||| (if hdb P (C i).toNatClampNeg b then 2 ^ i else 0)
theorem cbn_s {P : PSt} {C : RSt} {b i : Nat} : cbn P C b (i + 1) = cbn P C b i ||| (if hdb P (C i).toNatClampNeg b then 2 ^ i else 0) := rfl
theorem cbn_lt {P : PSt} {C : RSt} {b : Nat} : ∀ i, cbn P C b i < 2 ^ i
  | 0 => show (0 : Nat) < 1 from Nat.zero_lt_one
  | i + 1 => by
    rw [cbn_s]
    refine Nat.or_lt_two_pow (Nat.lt_trans (cbn_lt i) (Nat.pow_lt_pow_right (by decide) (by omega))) ?_
    split
    · exact Nat.pow_lt_pow_right (by decide) (by omega)
    · exact Nat.pow_pos (by decide)
theorem cbn_bit {P : PSt} {C : RSt} {b j : Nat} : ∀ i, j < i → (cbn P C b i).testBit j = hdb P (C j).toNatClampNeg b
  | 0, h => absurd h (Nat.not_lt_zero j)
  | i + 1, h => by
    rw [cbn_s, Nat.testBit_or]
    rcases Nat.lt_succ_iff_lt_or_eq.mp h with q | q
    · rw [cbn_bit i q]
      split
      · rw [Nat.testBit_two_pow_of_ne (by omega), Bool.or_false]
      · rw [Nat.zero_testBit, Bool.or_false]
    · subst q
      rw [bit_hi (cbn_lt j) (Nat.le_refl j), Bool.false_or]
      cases hh : hdb P (C j).toNatClampNeg b with
      | true => rw [if_pos rfl]; exact Nat.testBit_two_pow_self
      | false => rw [if_neg (by decide)]; exact Nat.zero_testBit j
theorem set_to {P : PSt} {C : RSt} {d c : Nat} {L : Nat → Prop} {al : Nat → Bool} (hA : ∀ i x, i < d → al i = true → x < 20 → C i = nI x → L x) (hc : ∀ i, i < d → c.testBit i = true → al i = true) : Adm L (Sc C d c) := by
  intro t ht hs
  obtain ⟨i, hi, h1, h2⟩ := Sc_iff.mp hs
  exact hA i t hi (hc i hi h1) ht h2
theorem set_from {C : RSt} {d : Nat} {L : Nat → Prop} {al : Nat → Bool} (hE : Enm C d) (hB : ∀ x, x < 20 → L x → ∃ i, i < d ∧ al i = true ∧ C i = nI x) {S : Nat → Bool} (hS : Adm L S) : ∃ c, c < 2 ^ d ∧ (∀ i, i < d → c.testBit i = true → al i = true) ∧ ∀ t, t < 20 → Sc C d c t = S t := by
  obtain ⟨c, hc, h⟩ := bits_ex d (fun i => S (C i).toNatClampNeg)
  have hcl : ∀ i x, i < d → x < 20 → C i = nI x → (C i).toNatClampNeg = x := fun i x _ hx e => by rw [e, nI_clE (by omega)]
  refine ⟨c, hc, fun i hi hb => ?_, fun t ht => ?_⟩
  · obtain ⟨x, hx, ex⟩ := hE.1 i hi
    rw [h i hi, hcl i x hi hx ex] at hb
    obtain ⟨j, hj, aj, ej⟩ := hB x hx (hS x hx hb)
    have := Enm_inj hE hi hj (ex.trans ej.symm)
    subst this
    exact aj
  · rw [Bool.eq_iff_iff, Sc_iff]
    constructor
    · rintro ⟨i, hi, h1, h2⟩
      rw [h i hi, hcl i t hi ht h2] at h1
      exact h1
    · intro hs
      obtain ⟨j, hj, -, ej⟩ := hB t ht (hS t ht hs)
      exact ⟨j, hj, by rw [h j hj, hcl j t hj ht ej]; exact hs, ej⟩
