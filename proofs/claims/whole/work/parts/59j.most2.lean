/-! ===== the reference's most and fewest ===== -/
section
variable {P : PSt} {s : RSt} {n : Nat}
/-- which places are loose -/
def lmn (P : PSt) (C : RSt) : Nat → Nat
  | 0 => 0
  | i + 1 => lmn P C i ||| (if P 4 (C i).toNatClampNeg = 0 ∧ nxc P (C i) = 1 then 2 ^ i else 0)
theorem lmn_s {C : RSt} {i : Nat} : lmn P C (i + 1) = lmn P C i ||| (if P 4 (C i).toNatClampNeg = 0 ∧ nxc P (C i) = 1 then 2 ^ i else 0) := rfl
theorem lmn_lt {C : RSt} : ∀ i, lmn P C i < 2 ^ i
  | 0 => show (0 : Nat) < 1 from Nat.zero_lt_one
  | i + 1 => by
    rw [lmn_s]
    refine Nat.or_lt_two_pow (Nat.lt_trans (lmn_lt i) (Nat.pow_lt_pow_right (by decide) (by omega))) ?_
    split
    · exact Nat.pow_lt_pow_right (by decide) (by omega)
    · exact Nat.pow_pos (by decide)
theorem lmn_bit {C : RSt} {j : Nat} : ∀ i, j < i → ((lmn P C i).testBit j = true ↔ (P 4 (C j).toNatClampNeg = 0 ∧ nxc P (C j) = 1))
  | 0, h => absurd h (Nat.not_lt_zero j)
  | i + 1, h => by
    rw [lmn_s, Nat.testBit_or]
    rcases Nat.lt_succ_iff_lt_or_eq.mp h with q | q
    · rw [← lmn_bit i q]
      split
      · rw [Nat.testBit_two_pow_of_ne (by omega), Bool.or_false]
      · rw [Nat.zero_testBit, Bool.or_false]
    · subst q
      rw [bit_hi (lmn_lt j) (Nat.le_refl j), Bool.false_or]
      by_cases hh : P 4 (C j).toNatClampNeg = 0 ∧ nxc P (C j) = 1
      · rw [if_pos hh, Nat.testBit_two_pow_self]
        exact ⟨fun _ => hh, fun _ => rfl⟩
      · rw [if_neg hh, Nat.zero_testBit]
        exact ⟨fun w => absurd w (by decide), fun w => absurd w hh⟩
theorem nI_or0 (x : Int32) : x ||| 0 = x := by simp
theorem or_or (a b : Nat) : a ||| b ||| b = a ||| b := by rw [Nat.or_assoc, Nat.or_self]
/-- one place's slots are gone through -/
theorem m_lh83 (hS : Sim P s) (hW : WInv P) {nw : RSt} {ow : Int32} {k x : Nat} (hk : k < 8) (hx : x < 20) (hsx : isS P x) (enw : nw k = nI x) (kf : Int32 → Int32 → Int32 → RSt → RSt → Option (Int32 × RSt × RSt)) (x1 x2 : Int32) (hd hh : RSt) (hI : ∀ b, b < 96 → hh b = nI (cbn P nw b k)) : ∃ hh', xX8_looksForHolders_83 s nw ow kf 600 x1 x2 (nI k) (nI x) 0 hd hh = kf x1 x2 (nI (k + 1)) hd hh' ∧ ∀ b, b < 96 → hh' b = nI (cbn P nw b (k + 1)) := by
  have hcl : (nw k).toNatClampNeg = x := by rw [enw, nI_clE (by omega)]
  have hc256 : ∀ b, cbn P nw b k < 256 := fun b => Nat.lt_of_lt_of_le (cbn_lt k) (pow8 (by omega))
  have hp256 : 2 ^ k < 256 := Nat.lt_of_lt_of_le (Nat.pow_lt_pow_right (by decide) hk) (by decide : 2 ^ 8 ≤ 256)
  have h := loopI (fun m i (g : RSt) => xX8_looksForHolders_83 s nw ow kf m x1 x2 (nI k) (nI x) (nI i) hd g) (fun i g => ∀ b, b < 96 → g b = nI (cbn P nw b k ||| (if hkb P x b i then 2 ^ k else 0))) 12 (fun m i g hi hI => by
    have e1 := hS.2.2.2.1 x i hx hi (Or.inr hsx)
    have ea : (122 : Int32) + 12 * nI x + nI i = nI (122 + 12 * x + i) := by rw [L122, L12, nI_mulE, nI_addE, nI_addE]
    show ∃ g', xX8_looksForHolders_83 s nw ow kf (m + 1) x1 x2 (nI k) (nI x) (nI i) hd g = xX8_looksForHolders_83 s nw ow kf m x1 x2 (nI k) (nI x) (nI (i + 1)) hd g' ∧ _
    rw [xX8_looksForHolders_83, if_neg (show ¬ (12 : Int32) ≤ nI i by rw [L12, nI_leE (by omega) (by omega)]; omega), ea, ix_nI (by omega) (by omega), grd_t, grd_t, nI_clE (by omega), e1, show nI i + 1 = nI (i + 1) from nI_succE i]
    rcases hW.2.2.2.2.2.2.2.1 x i hx hi with z | ⟨b0, hb0, z, -⟩
    · rw [if_pos (show P 6 (x * 12 + i) = -1 from z)]
      refine ⟨g, rfl, fun b hb => ?_⟩
      rw [hI b hb, hkb_s, z, decide_eq_false (fun w => nI_ne_m1 (show b < 100 by omega) w.symm), Bool.or_false]
    · have z' : P 6 (x * 12 + i) = nI b0 := z
      rw [z', if_neg (show ¬ nI b0 = -1 from nI_ne_m1 (by omega)), ix_nI (by omega) hb0, grd_t, grd_t, lt1_s, nI_clE (by omega), hI b0 hb0]
      refine ⟨_, rfl, fun b hb => ?_⟩
      have hlt : cbn P nw b0 k ||| (if hkb P x b0 i then 2 ^ k else 0) < 256 := by
        refine Nat.or_lt_two_pow (n := 8) (hc256 b0) ?_
        split
        · exact hp256
        · decide
      by_cases e : b = b0
      · subst e
        rw [upd_eq, bC _ hlt k hk, hkb_s, z', decide_eq_true rfl, Bool.or_true, if_pos rfl]
        split
        · rw [or_or]
        · rw [Nat.or_zero]
      · rw [upd_ne e, hI b hb, hkb_s, z', decide_eq_false (fun w => e (nI_lt_inj (by omega) (by omega) w).symm), Bool.or_false]) 12 600 0 hh (by omega) (by omega) (fun b hb => by
      rw [hkb_0, if_neg (by decide), Nat.or_zero]
      exact hI b hb)
  obtain ⟨m, g, e, h1⟩ := h
  refine ⟨g, ?_, fun b hb => ?_⟩
  · refine (show xX8_looksForHolders_83 s nw ow kf 600 x1 x2 (nI k) (nI x) (nI 0) hd hh = _ from e).trans ?_
    show xX8_looksForHolders_83 s nw ow kf (m + 1) x1 x2 (nI k) (nI x) (nI 12) hd g = _
    rw [xX8_looksForHolders_83, if_pos (show (12 : Int32) ≤ nI 12 by decide), show nI k + 1 = nI (k + 1) from nI_succE k]
  · rw [h1 b hb, hkb_12, cbn_s, hcl]
/-- a block's holders by places, if it has no others -/
def hhv (P : PSt) (C : RSt) (d b : Nat) : Nat := if cnt (fun j => (cbn P C b d).testBit j) 8 = hc P b then cbn P C b d else 0
theorem m_lh151 {nw : RSt} {ow x2 : Int32} {d : Nat} (hd8 : d ≤ 8) (hd hh : RSt) (h1 : ∀ b, b < 96 → hd b = nI (hc P b)) (h2 : ∀ b, b < 96 → hh b = nI (cbn P nw b d)) : ∃ hh', xX8_looksForHolders_151 s nw ow 600 x2 0 hd hh = some (x2, hd, hh') ∧ ∀ b, b < 96 → hh' b = nI (hhv P nw d b) := by
  have h := loopI (fun m i (g : RSt) => xX8_looksForHolders_151 s nw ow m x2 (nI i) hd g) (fun i g => ∀ b, b < 96 → g b = if b < i then nI (hhv P nw d b) else nI (cbn P nw b d)) 96 (fun m i g hi hI => by
    have hy : cbn P nw i d < 256 := Nat.lt_of_lt_of_le (cbn_lt d) (pow8 hd8)
    have hk := cnt_le (fun j => (cbn P nw i d).testBit j) 8
    have hl := hc_lt (P := P) (b := i)
    have eg : g i = nI (cbn P nw i d) := by rw [hI i hi, if_neg (by omega)]
    show ∃ g', xX8_looksForHolders_151 s nw ow (m + 1) x2 (nI i) hd g = xX8_looksForHolders_151 s nw ow m x2 (nI (i + 1)) hd g' ∧ _
    rw [xX8_looksForHolders_151, if_neg (show ¬ (96 : Int32) ≤ nI i by rw [L96, nI_leE (by omega) (by omega)]; omega), ix_nI (by omega) (by omega), grd_t, nI_clE (by omega), eg, m_countOf hy, bn1_s, grd_t, h1 i hi, grd_t, grd_t, lt1_s, grd_t, lt1_s, show nI i + 1 = nI (i + 1) from nI_succE i]
    have key : ∀ v, v = nI (hhv P nw d i) → ∀ b, b < 96 → upd g i v b = if b < i + 1 then nI (hhv P nw d b) else nI (cbn P nw b d) := by
      intro v ev b hb
      by_cases e : b = i
      · subst e
        rw [upd_eq, if_pos (by omega), ev]
      · rw [upd_ne e, hI b hb]
        by_cases w : b < i
        · rw [if_pos w, if_pos (by omega)]
        · rw [if_neg w, if_neg (by omega)]
    by_cases hq : cnt (fun j => (cbn P nw i d).testBit j) 8 = hc P i
    · rw [if_pos (show nI (cnt (fun j => (cbn P nw i d).testBit j) 8) = nI (hc P i) by rw [hq])]
      exact ⟨_, rfl, key _ (by unfold hhv; rw [if_pos hq])⟩
    · rw [if_neg (show ¬ nI (cnt (fun j => (cbn P nw i d).testBit j) 8) = nI (hc P i) by rw [nI_inj (by omega) (by omega)]; exact hq)]
      exact ⟨_, rfl, key _ (by unfold hhv; rw [if_neg hq]; rfl)⟩) 96 600 0 hh (by omega) (by omega) (fun b hb => by rw [if_neg (by omega)]; exact h2 b hb)
  obtain ⟨m, g, e, h3⟩ := h
  refine ⟨g, ?_, fun b hb => ?_⟩
  · refine (show xX8_looksForHolders_151 s nw ow 600 x2 (nI 0) hd hh = _ from e).trans ?_
    show xX8_looksForHolders_151 s nw ow (m + 1) x2 (nI 96) hd g = _
    rw [xX8_looksForHolders_151, if_pos (show (96 : Int32) ≤ nI 96 by decide)]
  · rw [h3 b hb, if_pos hb]
theorem m_lh (hS : Sim P s) (hW : WInv P) {nw : RSt} {ow : Nat} {d : Nat} (how : ow < 20) (hdd : d ≤ 8 ∧ d ≤ ow ∧ (d < ow → d = 8)) (hnw : ∀ j, j < d → ∃ x, x < 20 ∧ nw j = nI x ∧ isS P x) (hd hh : RSt) : ∃ hd' hh', xX8_looksForHolders s nw (nI ow) hd hh = some (nI (lmn P nw d), hd', hh') ∧ ∀ b, b < 96 → hh' b = nI (hhv P nw d b) := by
  have e0 : xX8_looksForHolders s nw (nI ow) hd hh = xX8_looksForHolders_18 s nw (nI ow) (nI d) hd hh := by
    unfold xX8_looksForHolders
    by_cases h : 8 ≤ ow
    · rw [if_pos (show (8 : Int32) ≤ nI ow by rw [L8, nI_leE (by omega) (by omega)]; exact h), show d = 8 by omega]
      rfl
    · rw [if_neg (show ¬ (8 : Int32) ≤ nI ow by rw [L8, nI_leE (by omega) (by omega)]; exact h), show d = ow by omega]
  obtain ⟨hd1, e1, h1⟩ := m_counts hS hW hd
  have hz := loopI (fun m i (g : RSt) => xX8_looksForHolders_27 s nw (nI ow) m (nI d) 0 (nI i) hd1 g) (fun i g => ∀ b, b < i → g b = 0) 96 (fun m i g hi hI => ⟨upd g i 0, by
    show xX8_looksForHolders_27 s nw (nI ow) (m + 1) (nI d) 0 (nI i) hd1 g = _
    rw [xX8_looksForHolders_27, if_neg (show ¬ (96 : Int32) ≤ nI i by rw [L96, nI_leE (by omega) (by omega)]; omega), ix_nI (by omega) (by omega), grd_t, lt1_s, nI_clE (by omega), show nI i + 1 = nI (i + 1) from nI_succE i], fun b hb => by
    by_cases e : b = i
    · rw [e, upd_eq]
    · rw [upd_ne e]; exact hI b (by omega)⟩) 96 600 0 hh (by omega) (by omega) (fun b hb => absurd hb (Nat.not_lt_zero b))
  obtain ⟨m2, g2, e2, h2⟩ := hz
  have hk := loopI (fun m k (q : Int32 × RSt) => xX8_looksForHolders_48 s nw (nI ow) m (nI d) q.1 (nI k) hd1 q.2) (fun k q => q.1 = nI (lmn P nw k) ∧ ∀ b, b < 96 → q.2 b = nI (cbn P nw b k)) d (fun m k q hk hI => by
    obtain ⟨q1, g⟩ := q
    obtain ⟨a1, a2⟩ := hI
    have a1' : q1 = nI (lmn P nw k) := a1
    subst a1'
    obtain ⟨x, hx, ex, hsx⟩ := hnw k hk
    have hcl : (nw k).toNatClampNeg = x := by rw [ex, nI_clE (by omega)]
    have hl256 : lmn P nw k < 256 := Nat.lt_of_lt_of_le (lmn_lt k) (pow8 (by omega))
    obtain ⟨g', eg, hg'⟩ := m_lh83 (ow := nI ow) hS hW (k := k) (by omega) hx hsx ex (xX8_looksForHolders_48 s nw (nI ow) m) (nI d) (nI (lmn P nw (k + 1))) hd1 g a2
    refine ⟨(nI (lmn P nw (k + 1)), g'), ?_, rfl, hg'⟩
    refine Eq.trans ?_ eg
    show xX8_looksForHolders_48 s nw (nI ow) (m + 1) (nI d) (nI (lmn P nw k)) (nI k) hd1 g = _
    rw [xX8_looksForHolders_48, if_neg (by rw [nI_leE (by omega) (by omega)]; omega), ix_nI (by omega) (by omega), grd_t, nI_clE (by omega), ex, m_isLoose hS hW hx hsx, bn1_s, ite10, lmn_s, hcl, ex]
    by_cases hlo : P 4 x = 0 ∧ nxc P (nI x) = 1
    · rw [if_pos hlo, if_pos hlo, bC _ hl256 k (by omega)]
    · rw [if_neg hlo, if_neg hlo, nI_or0, Nat.or_zero]) d 600 0 (nI 0, g2) (by omega) (by omega) ⟨rfl, fun b hb => h2 b hb⟩
  obtain ⟨m3, q, e3, a1, a2⟩ := hk
  obtain ⟨q1, g3⟩ := q
  have a1' : q1 = nI (lmn P nw d) := a1
  subst a1'
  obtain ⟨g4, e4, h4⟩ := m_lh151 (P := P) (s := s) (nw := nw) (ow := nI ow) (x2 := nI (lmn P nw d)) hdd.1 hd1 g3 h1 a2
  refine ⟨hd1, g4, ?_, h4⟩
  rw [e0]
  unfold xX8_looksForHolders_18
  rw [e1, bn1_s]
  refine (show xX8_looksForHolders_27 s nw (nI ow) 600 (nI d) 0 (nI 0) hd1 hh = _ from e2).trans ?_
  show xX8_looksForHolders_27 s nw (nI ow) (m2 + 1) (nI d) 0 (nI 96) hd1 g2 = _
  rw [xX8_looksForHolders_27, if_pos (show (96 : Int32) ≤ nI 96 by decide)]
  refine (show xX8_looksForHolders_48 s nw (nI ow) 600 (nI d) (nI 0) (nI 0) hd1 g2 = _ from e3).trans ?_
  show xX8_looksForHolders_48 s nw (nI ow) (m3 + 1) (nI d) (nI (lmn P nw d)) (nI d) hd1 g3 = _
  rw [xX8_looksForHolders_48, if_pos (by rw [nI_leE (by omega) (by omega)]; omega), e4]
end
