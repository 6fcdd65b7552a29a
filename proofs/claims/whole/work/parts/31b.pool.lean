/-- slots taken over -/
def cps (P : PSt) (f t k : Nat) : PSt := fun a b => if a = 6 ∧ t * 12 ≤ b ∧ b < t * 12 + k then P 6 (f * 12 + (b - t * 12)) else P a b
theorem cps_st {P : PSt} {f t k : Nat} (hft : f ≠ t) (hk : k < 12) : st (cps P f t k) 6 (t * 12 + k) (P 6 (f * 12 + k)) = cps P f t (k + 1) := by
  funext a b
  rw [st_if]
  unfold cps
  by_cases ha : a = 6
  · subst ha
    by_cases hb : b = t * 12 + k
    · subst hb
      rw [if_pos ⟨rfl, rfl⟩, if_pos ⟨rfl, by omega, by omega⟩, show t * 12 + k - t * 12 = k by omega]
    · rw [if_neg (by omega)]
      by_cases hc : t * 12 ≤ b ∧ b < t * 12 + k
      · rw [if_pos ⟨rfl, hc⟩, if_pos ⟨rfl, by omega, by omega⟩]
      · rw [if_neg (by omega), if_neg (by omega)]
  · rw [if_neg (by omega), if_neg (by omega), if_neg (by omega)]
theorem c_copySlots {P : PSt} {f t : Nat} (hf : f < 20) (ht : t < 20) (hft : f ≠ t) : xX4_copySlots P (nI f) (nI t) = some (cps P f t 12) := by
  unfold xX4_copySlots
  have e0 : P = cps P f t 0 := by
    funext a b
    unfold cps
    rw [if_neg (by omega)]
  have hh : xX4_copySlots_2 600 (nI f) (nI t) (nI 0) (cps P f t 0) = some (cps P f t 12) := by
    refine loop0 (fun n i s => xX4_copySlots_2 n (nI f) (nI t) (nI i) s) (fun i => cps P f t i) _ 12 600 (by decide) ?_ ?_
    · intro n i hi
      simp only [xX4_copySlots_2, c_blockIn, bi_nI hf hi]
      have e1 : cps P f t i 6 (f * 12 + i) = P 6 (f * 12 + i) := by
        unfold cps
        rw [if_neg (by omega)]
      simp (disch := omega) only [L0, L1, L2, L3, L4, L5, L8, L9, L10, L11, L12, L19, L20, L22, L40, L42, L60, L62, L82, L95, L96, L100, L102, L122, L240, L256, L362, L458, L554, L1000000000, L100000, Lm1, nI_addE, nI_mulE, nI_inj, nI_ltE, nI_leE, nI_clE, nI_m1, m1_nI, m1_lt, m1_le, nI_lt_m1, nI_le_m1, ix_nI, dT_le, dF_le, dT_lt, dF_lt, dT_eq, dF_eq, iT, iF, grd_t, lt1_s, bn1_s, bn2_s, bn3_s, bn4_s, bn5_s, nI_add0, c_setSlot ht hi, e1, cps_st hft hi]
    · intro n
      simp only [xX4_copySlots_2]
      simp (disch := omega) only [L0, L1, L2, L3, L4, L5, L8, L9, L10, L11, L12, L19, L20, L22, L40, L42, L60, L62, L82, L95, L96, L100, L102, L122, L240, L256, L362, L458, L554, L1000000000, L100000, Lm1, nI_addE, nI_mulE, nI_inj, nI_ltE, nI_leE, nI_clE, nI_m1, m1_nI, m1_lt, m1_le, nI_lt_m1, nI_le_m1, ix_nI, dT_le, dF_le, dT_lt, dF_lt, dT_eq, dF_eq, iT, iF, grd_t, lt1_s, bn1_s, bn2_s, bn3_s, bn4_s, bn5_s, nI_add0]
  rw [← e0] at hh
  exact hh
/-- f's first k slots emptied -/
def clr (P : PSt) (f k : Nat) : PSt := fun a i => if a = 6 ∧ f * 12 ≤ i ∧ i < f * 12 + k then m1 else P a i
theorem clr_0 {P : PSt} {f : Nat} : clr P f 0 = P := by
  funext a i
  unfold clr
  rw [if_neg (by omega)]
theorem clr_s {P : PSt} {f k : Nat} : st (clr P f k) 6 (f * 12 + k) m1 = clr P f (k + 1) := by
  funext a i
  rw [st_if]
  unfold clr
  by_cases h : a = 6 ∧ i = f * 12 + k
  · rw [if_pos h, if_pos (by omega)]
  · rw [if_neg h]
    by_cases h2 : a = 6 ∧ f * 12 ≤ i ∧ i < f * 12 + k
    · rw [if_pos h2, if_pos (by omega)]
    · rw [if_neg h2, if_neg (by omega)]
theorem clr_row {P : PSt} {f k a : Nat} (h : a ≠ 6) : clr P f k a = P a := by
  funext i
  unfold clr
  rw [if_neg (by omega)]
/-- a number laid bare -/
def drp (P : PSt) (t : Nat) : PSt := fun a b => if a ≤ 5 ∧ b = t then (if a = 1 ∨ a = 4 then 0 else m1) else if a = 6 ∧ t * 12 ≤ b ∧ b < t * 12 + 12 then m1 else P a b
theorem drp_clr {P : PSt} {t : Nat} : clr (st (st (st (st (st (st P 0 t m1) 1 t (nI 0)) 2 t m1) 3 t m1) 4 t (nI 0)) 5 t m1) t 12 = drp P t := by
  funext a b
  unfold drp clr
  by_cases h6 : a = 6 ∧ t * 12 ≤ b ∧ b < t * 12 + 12
  · rw [if_pos h6, if_neg (by omega), if_pos h6]
  · rw [if_neg h6, if_neg h6]
    simp only [st_if]
    by_cases hb : b = t
    · subst hb
      by_cases h5 : a ≤ 5
      · rcases (show a = 0 ∨ a = 1 ∨ a = 2 ∨ a = 3 ∨ a = 4 ∨ a = 5 by omega) with rfl | rfl | rfl | rfl | rfl | rfl <;> simp <;> rfl
      · rw [if_neg (by omega), if_neg (by omega), if_neg (by omega), if_neg (by omega), if_neg (by omega), if_neg (by omega), if_neg (by omega)]
    · simp [hb]
theorem c_drop55 {Q : PSt} {t : Nat} (ht : t < 20) : xX4_dropThing_55 600 (nI t) (nI 0) Q = some (clr Q t 12) := by
  have hh : xX4_dropThing_55 600 (nI t) (nI 0) (clr Q t 0) = some (clr Q t 12) := by
    refine loop0 (fun n i s => xX4_dropThing_55 n (nI t) (nI i) s) (fun i => clr Q t i) _ 12 600 (by decide) ?_ ?_
    · intro n i hi
      rw [← clr_s]
      generalize clr Q t i = R
      simp only [xX4_dropThing_55]
      simp (disch := omega) only [L0, L1, L2, L3, L4, L5, L8, L9, L10, L11, L12, L19, L20, L22, L40, L42, L60, L62, L82, L95, L96, L100, L102, L122, L240, L256, L362, L458, L554, L1000000000, L100000, Lm1, nI_addE, nI_mulE, nI_inj, nI_ltE, nI_leE, nI_clE, nI_m1, m1_nI, m1_lt, m1_le, nI_lt_m1, nI_le_m1, ix_nI, dT_le, dF_le, dT_lt, dF_lt, dT_eq, dF_eq, iT, iF, grd_t, lt1_s, bn1_s, bn2_s, bn3_s, bn4_s, bn5_s, nI_add0]
    · intro n
      generalize clr Q t 12 = R
      simp only [xX4_dropThing_55]
      simp (disch := omega) only [L0, L1, L2, L3, L4, L5, L8, L9, L10, L11, L12, L19, L20, L22, L40, L42, L60, L62, L82, L95, L96, L100, L102, L122, L240, L256, L362, L458, L554, L1000000000, L100000, Lm1, nI_addE, nI_mulE, nI_inj, nI_ltE, nI_leE, nI_clE, nI_m1, m1_nI, m1_lt, m1_le, nI_lt_m1, nI_le_m1, ix_nI, dT_le, dF_le, dT_lt, dF_lt, dT_eq, dF_eq, iT, iF, grd_t, lt1_s, bn1_s, bn2_s, bn3_s, bn4_s, bn5_s, nI_add0]
  rw [clr_0] at hh
  exact hh
theorem c_dropThing {P : PSt} {t : Nat} (ht : t < 20) : xX4_dropThing P (nI t) = some (drp P t) := by
  unfold xX4_dropThing
  simp (disch := omega) only [L0, L1, L2, L3, L4, L5, L8, L9, L10, L11, L12, L19, L20, L22, L40, L42, L60, L62, L82, L95, L96, L100, L102, L122, L240, L256, L362, L458, L554, L1000000000, L100000, Lm1, nI_addE, nI_mulE, nI_inj, nI_ltE, nI_leE, nI_clE, nI_m1, m1_nI, m1_lt, m1_le, nI_lt_m1, nI_le_m1, ix_nI, dT_le, dF_le, dT_lt, dF_lt, dT_eq, dF_eq, iT, iF, grd_t, lt1_s, bn1_s, bn2_s, bn3_s, bn4_s, bn5_s, nI_add0]
  rw [c_drop55 ht, drp_clr]
/-- one step of a chain, and many -/
def pvo (P : PSt) (x : Int32) : Int32 := rd 20 (P 2) m1 x
def itr (P : PSt) (x : Int32) : Nat → Int32
  | 0 => x
  | n + 1 => pvo P (itr P x n)
theorem itr_m1 (P : PSt) : ∀ n, itr P m1 n = m1
  | 0 => rfl
  | n + 1 => by rw [itr, itr_m1 P n]; exact rd_m1
theorem itr_add (P : PSt) (x : Int32) (a : Nat) : ∀ b, itr P x (a + b) = itr P (itr P x a) b
  | 0 => rfl
  | b + 1 => by rw [← Nat.add_assoc, itr, itr, itr_add P x a b]
theorem c_inChain {P : PSt} {x : Int32} {k : Nat} (hk : k < 20) : xX4_inChain P x (nI k) = some (itr P (pvo P x) k) := by
  unfold xX4_inChain
  rw [c_prevOf]
  simp (disch := omega) only [L0, L1, L2, L3, L4, L5, L8, L9, L10, L11, L12, L19, L20, L22, L40, L42, L60, L62, L82, L95, L96, L100, L102, L122, L240, L256, L362, L458, L554, L1000000000, L100000, Lm1, nI_addE, nI_mulE, nI_inj, nI_ltE, nI_leE, nI_clE, nI_m1, m1_nI, m1_lt, m1_le, nI_lt_m1, nI_le_m1, ix_nI, dT_le, dF_le, dT_lt, dF_lt, dT_eq, dF_eq, iT, iF, grd_t, lt1_s, bn1_s, bn2_s, bn3_s, bn4_s, bn5_s, nI_add0]
  show xX4_inChain_21 P 600 (nI k) (pvo P x) (nI 0) = _
  -- stops where the chain ends
  by_cases hm : ∃ j, j ≤ k ∧ itr P (pvo P x) j = m1
  · have hm' : fst1 (fun j => decide (itr P (pvo P x) j = m1)) (k + 1) < k + 1 := by
      obtain ⟨j, hj, e⟩ := hm
      rcases Nat.lt_or_ge (fst1 (fun j => decide (itr P (pvo P x) j = m1)) (k + 1)) (k + 1) with h | h
      · exact h
      · have := fst1_no (fun j => decide (itr P (pvo P x) j = m1)) (k + 1) j (by omega)
        rw [decide_eq_false_iff_not] at this
        exact absurd e this
    generalize hN : fst1 (fun j => decide (itr P (pvo P x) j = m1)) (k + 1) = N at hm'
    have hy : itr P (pvo P x) N = m1 := by
      have := fst1_yes (fun j => decide (itr P (pvo P x) j = m1)) (k + 1) (by omega)
      rw [hN] at this
      simpa using this
    have hr : itr P (pvo P x) k = m1 := by
      rw [show k = N + (k - N) by omega, itr_add, hy, itr_m1]
    rw [hr]
    refine loop0 (fun n i s => xX4_inChain_21 P n (nI k) s (nI i)) (fun i => itr P (pvo P x) i) _ N 600 (by omega) ?_ ?_
    · intro n i hi
      have h : ¬ itr P (pvo P x) i = m1 := by
        have := fst1_no (fun j => decide (itr P (pvo P x) j = m1)) (k + 1) i (by omega)
        simpa using this
      simp only [xX4_inChain_21, c_prevOf]
      simp (disch := omega) only [L0, L1, L2, L3, L4, L5, L8, L9, L10, L11, L12, L19, L20, L22, L40, L42, L60, L62, L82, L95, L96, L100, L102, L122, L240, L256, L362, L458, L554, L1000000000, L100000, Lm1, nI_addE, nI_mulE, nI_inj, nI_ltE, nI_leE, nI_clE, nI_m1, m1_nI, m1_lt, m1_le, nI_lt_m1, nI_le_m1, ix_nI, dT_le, dF_le, dT_lt, dF_lt, dT_eq, dF_eq, iT, iF, grd_t, lt1_s, bn1_s, bn2_s, bn3_s, bn4_s, bn5_s, nI_add0, eq_false h]
      rfl
    · intro n
      simp only [xX4_inChain_21]
      rw [hy]
      by_cases hkN : k ≤ N
      · simp (disch := omega) only [L0, L1, L2, L3, L4, L5, L8, L9, L10, L11, L12, L19, L20, L22, L40, L42, L60, L62, L82, L95, L96, L100, L102, L122, L240, L256, L362, L458, L554, L1000000000, L100000, Lm1, nI_addE, nI_mulE, nI_inj, nI_ltE, nI_leE, nI_clE, nI_m1, m1_nI, m1_lt, m1_le, nI_lt_m1, nI_le_m1, ix_nI, dT_le, dF_le, dT_lt, dF_lt, dT_eq, dF_eq, iT, iF, grd_t, lt1_s, bn1_s, bn2_s, bn3_s, bn4_s, bn5_s, nI_add0]
      · simp (disch := omega) only [L0, L1, L2, L3, L4, L5, L8, L9, L10, L11, L12, L19, L20, L22, L40, L42, L60, L62, L82, L95, L96, L100, L102, L122, L240, L256, L362, L458, L554, L1000000000, L100000, Lm1, nI_addE, nI_mulE, nI_inj, nI_ltE, nI_leE, nI_clE, nI_m1, m1_nI, m1_lt, m1_le, nI_lt_m1, nI_le_m1, ix_nI, dT_le, dF_le, dT_lt, dF_lt, dT_eq, dF_eq, iT, iF, grd_t, lt1_s, bn1_s, bn2_s, bn3_s, bn4_s, bn5_s, nI_add0, eq_self_iff_true]
  · have hm2 : ∀ j, j ≤ k → ¬ itr P (pvo P x) j = m1 := fun j hj e => hm ⟨j, hj, e⟩
    refine loop0 (fun n i s => xX4_inChain_21 P n (nI k) s (nI i)) (fun i => itr P (pvo P x) i) _ k 600 (by omega) ?_ ?_
    · intro n i hi
      simp only [xX4_inChain_21, c_prevOf]
      simp (disch := omega) only [L0, L1, L2, L3, L4, L5, L8, L9, L10, L11, L12, L19, L20, L22, L40, L42, L60, L62, L82, L95, L96, L100, L102, L122, L240, L256, L362, L458, L554, L1000000000, L100000, Lm1, nI_addE, nI_mulE, nI_inj, nI_ltE, nI_leE, nI_clE, nI_m1, m1_nI, m1_lt, m1_le, nI_lt_m1, nI_le_m1, ix_nI, dT_le, dF_le, dT_lt, dF_lt, dT_eq, dF_eq, iT, iF, grd_t, lt1_s, bn1_s, bn2_s, bn3_s, bn4_s, bn5_s, nI_add0, eq_false (hm2 i (by omega))]
      rfl
    · intro n
      simp only [xX4_inChain_21]
      simp (disch := omega) only [L0, L1, L2, L3, L4, L5, L8, L9, L10, L11, L12, L19, L20, L22, L40, L42, L60, L62, L82, L95, L96, L100, L102, L122, L240, L256, L362, L458, L554, L1000000000, L100000, Lm1, nI_addE, nI_mulE, nI_inj, nI_ltE, nI_leE, nI_clE, nI_m1, m1_nI, m1_lt, m1_le, nI_lt_m1, nI_le_m1, ix_nI, dT_le, dF_le, dT_lt, dF_lt, dT_eq, dF_eq, iT, iF, grd_t, lt1_s, bn1_s, bn2_s, bn3_s, bn4_s, bn5_s, nI_add0]
