/-! ===== what is told of the pool ===== -/
theorem bn1_id {α : Type} (x : Option α) : bn1 x (fun v => some v) = x := by cases x <;> rfl
theorem c_in {α : Type} {y z : Int32} (A B : α) : (if y < 0 then A else if y ≤ z then B else A) = if (0 ≤ y ∧ y ≤ z) then B else A := by
  by_cases h : y < 0
  · rw [if_pos h, if_neg]
    rintro ⟨h1, -⟩
    rw [Int32.le_iff_toInt_le] at h1
    rw [Int32.lt_iff_toInt_lt] at h
    omega
  · rw [if_neg h]
    by_cases h2 : y ≤ z
    · rw [if_pos h2, if_pos]
      refine ⟨?_, h2⟩
      rw [Int32.le_iff_toInt_le]
      rw [Int32.lt_iff_toInt_lt] at h
      omega
    · rw [if_neg h2, if_neg (fun w => h2 w.2)]
theorem c_in2 {α : Type} {y : Int32} {n : Nat} (hn : n < 2147483647) (A B : α) : (if y < 0 then A else if y < nI (n + 1) then B else A) = if (0 ≤ y ∧ y ≤ nI n) then B else A := by
  rw [← c_in]
  by_cases h : y < 0
  · rw [if_pos h, if_pos h]
  · rw [if_neg h, if_neg h]
    have : (y < nI (n + 1)) ↔ (y ≤ nI n) := by
      rw [Int32.le_iff_toInt_le, Int32.lt_iff_toInt_lt, nI_toInt (by omega), nI_toInt (by omega)]
      omega
    by_cases h2 : y ≤ nI n
    · rw [if_pos h2, if_pos (this.mpr h2)]
    · rw [if_neg h2, if_neg (fun z => h2 (this.mp z))]
theorem ite10 {α : Type} {C : Prop} {d : Decidable C} (A B : α) : (if (@ite _ C d (1 : Int32) 0) = 0 then A else B) = @ite _ C d B A := by
  by_cases h : C
  · rw [if_pos h, if_pos h, if_neg one_ne]
  · rw [if_neg h, if_neg h, if_pos zero_eq]
theorem in_ex {y : Int32} {n : Nat} (hn : n < 2147483647) (h : 0 ≤ y ∧ y ≤ nI n) : ∃ k, k ≤ n ∧ y = nI k := by
  rcases arg_ix y (n := n + 1) (by omega) with z | ⟨k, hk, rfl⟩
  · exact absurd h (out_k hn z)
  · exact ⟨k, by omega, rfl⟩
section
variable {P : PSt} {s : RSt} {n : Nat}
def hdn (P : PSt) (t : Nat) : Nat := cnt (fun k => decide (P 6 (t * 12 + k) ≠ m1)) 12
theorem c_heldCount {t : Nat} (ht : t < 20) : xX6_heldCount P (nI t) = some (nI (hdn P t)) := by
  unfold xX6_heldCount hdn
  refine loop0 (fun m i r => xX6_heldCount_4 P m (nI t) r (nI i)) (fun i => nI (cnt (fun k => decide (P 6 (t * 12 + k) ≠ m1)) i)) _ 12 600 (by decide) ?_ ?_
  · intro m k hk
    simp only [xX6_heldCount_4, c_blockIn, bi_nI ht hk, cnt_s]
    by_cases z : P 6 (t * 12 + k) = m1
    · simp only [z, ne_eq, not_true, decide_false, Bool.false_eq_true, if_false, Nat.add_zero]
      simp (disch := omega) only [L0, L1, L2, L3, L4, L5, L8, L9, L10, L11, L12, L19, L20, L22, L40, L42, L60, L62, L82, L95, L96, L100, L102, L122, L240, L256, L362, L458, L554, L1000000000, L100000, Lm1, nI_addE, nI_mulE, nI_inj, nI_ltE, nI_leE, nI_clE, nI_m1, m1_nI, m1_lt, m1_le, nI_lt_m1, nI_le_m1, ix_nI, dT_le, dF_le, dT_lt, dF_lt, dT_eq, dF_eq, iT, iF, grd_t, lt1_s, bn1_s, bn2_s, bn3_s, bn4_s, bn5_s, nI_add0, if_true]
    · simp only [z, ne_eq, not_false_iff, decide_true, if_true]
      simp (disch := omega) only [L0, L1, L2, L3, L4, L5, L8, L9, L10, L11, L12, L19, L20, L22, L40, L42, L60, L62, L82, L95, L96, L100, L102, L122, L240, L256, L362, L458, L554, L1000000000, L100000, Lm1, nI_addE, nI_mulE, nI_inj, nI_ltE, nI_leE, nI_clE, nI_m1, m1_nI, m1_lt, m1_le, nI_lt_m1, nI_le_m1, ix_nI, dT_le, dF_le, dT_lt, dF_lt, dT_eq, dF_eq, iT, iF, grd_t, lt1_s, bn1_s, bn2_s, bn3_s, bn4_s, bn5_s, nI_add0, z, if_false]
  · intro m
    simp only [xX6_heldCount_4]
    simp (disch := omega) only [L0, L1, L2, L3, L4, L5, L8, L9, L10, L11, L12, L19, L20, L22, L40, L42, L60, L62, L82, L95, L96, L100, L102, L122, L240, L256, L362, L458, L554, L1000000000, L100000, Lm1, nI_addE, nI_mulE, nI_inj, nI_ltE, nI_leE, nI_clE, nI_m1, m1_nI, m1_lt, m1_le, nI_lt_m1, nI_le_m1, ix_nI, dT_le, dF_le, dT_lt, dF_lt, dT_eq, dF_eq, iT, iF, grd_t, lt1_s, bn1_s, bn2_s, bn3_s, bn4_s, bn5_s, nI_add0]
theorem m_heldMany (hS : Sim P s) (hW : WInv P) {t : Nat} (ht : t < 20) : xX8_heldMany s (nI t) = some (nI (hdn P t)) := by
  unfold xX8_heldMany hdn
  refine loop0 (fun m i r => xX8_heldMany_4 s m (nI t) r (nI i)) (fun i => nI (cnt (fun k => decide (P 6 (t * 12 + k) ≠ m1)) i)) _ 12 600 (by decide) ?_ ?_
  · intro m k hk
    simp only [xX8_heldMany_4, m_hasT hS ht, cnt_s]
    by_cases h : hs P t
    · have hk1 := hsk_hs.mpr h
      have e := sim_slot hS ht hk h
      simp only [hk1, if_true]
      by_cases z : P 6 (t * 12 + k) = m1
      · rw [z] at e
        simp only [z, ne_eq, not_true, decide_false, Bool.false_eq_true, if_false, Nat.add_zero]
        simp (disch := omega) only [L0, L1, L2, L3, L4, L5, L8, L9, L10, L11, L12, L19, L20, L22, L40, L42, L60, L62, L82, L95, L96, L100, L102, L122, L240, L256, L362, L458, L554, L1000000000, L100000, Lm1, nI_addE, nI_mulE, nI_inj, nI_ltE, nI_leE, nI_clE, nI_m1, m1_nI, m1_lt, m1_le, nI_lt_m1, nI_le_m1, ix_nI, dT_le, dF_le, dT_lt, dF_lt, dT_eq, dF_eq, iT, iF, grd_t, lt1_s, bn1_s, bn2_s, bn3_s, bn4_s, bn5_s, nI_add0, e, if_true]
      · simp only [z, ne_eq, not_false_iff, decide_true, if_true]
        simp (disch := omega) only [L0, L1, L2, L3, L4, L5, L8, L9, L10, L11, L12, L19, L20, L22, L40, L42, L60, L62, L82, L95, L96, L100, L102, L122, L240, L256, L362, L458, L554, L1000000000, L100000, Lm1, nI_addE, nI_mulE, nI_inj, nI_ltE, nI_leE, nI_clE, nI_m1, m1_nI, m1_lt, m1_le, nI_lt_m1, nI_le_m1, ix_nI, dT_le, dF_le, dT_lt, dF_lt, dT_eq, dF_eq, iT, iF, grd_t, lt1_s, bn1_s, bn2_s, bn3_s, bn4_s, bn5_s, nI_add0, e, z, if_false]
    · have hk1 : hsk (P 0 t) = false := by
        cases z : hsk (P 0 t) with
        | false => rfl
        | true => exact absurd (hsk_hs.mp z) h
      have z := (hW.2.2.1 t ht h).2.2 k hk
      simp only [hk1, z, ne_eq, not_true, decide_false, Bool.false_eq_true, if_false, Nat.add_zero]
      simp (disch := omega) only [L0, L1, L2, L3, L4, L5, L8, L9, L10, L11, L12, L19, L20, L22, L40, L42, L60, L62, L82, L95, L96, L100, L102, L122, L240, L256, L362, L458, L554, L1000000000, L100000, Lm1, nI_addE, nI_mulE, nI_inj, nI_ltE, nI_leE, nI_clE, nI_m1, m1_nI, m1_lt, m1_le, nI_lt_m1, nI_le_m1, ix_nI, dT_le, dF_le, dT_lt, dF_lt, dT_eq, dF_eq, iT, iF, grd_t, lt1_s, bn1_s, bn2_s, bn3_s, bn4_s, bn5_s, nI_add0, if_true]
  · intro m
    simp only [xX8_heldMany_4]
    simp (disch := omega) only [L0, L1, L2, L3, L4, L5, L8, L9, L10, L11, L12, L19, L20, L22, L40, L42, L60, L62, L82, L95, L96, L100, L102, L122, L240, L256, L362, L458, L554, L1000000000, L100000, Lm1, nI_addE, nI_mulE, nI_inj, nI_ltE, nI_leE, nI_clE, nI_m1, m1_nI, m1_lt, m1_le, nI_lt_m1, nI_le_m1, ix_nI, dT_le, dF_le, dT_lt, dF_lt, dT_eq, dF_eq, iT, iF, grd_t, lt1_s, bn1_s, bn2_s, bn3_s, bn4_s, bn5_s, nI_add0]
theorem q_told (h : Good P s n) (x y : Int32) : ∃ r, xX7_told P x y = some r ∧ xX8_told s x y = some r := by
  obtain ⟨hI, hS, -⟩ := h
  have hW := hI.w
  unfold xX7_told xX6_tellThing xX8_told
  rw [bn1_id, c_in, m_in, bn1_s, ite10]
  by_cases hy : 0 ≤ y ∧ y ≤ 9
  · rw [if_pos hy, if_pos hy, c_refN, m_there hS, bn1_s, bn1_s]
    by_cases hr : refN P x = 0
    · rw [if_pos hr, if_pos hr]
      obtain ⟨t, ht, rfl, hk⟩ := refN_ok hr
      obtain ⟨e1, e2, e3, e5, e4⟩ := hS.2.2.1 t ht hk
      have e0 := hS.2.1 t ht
      have a2 : (2 : Int32) + nI t = nI (2 + t) := nI_addE 2 t
      have a22 : (22 : Int32) + nI t = nI (22 + t) := nI_addE 22 t
      have a42 : (42 : Int32) + nI t = nI (42 + t) := nI_addE 42 t
      have a62 : (62 : Int32) + nI t = nI (62 + t) := nI_addE 62 t
      have a82 : (82 : Int32) + nI t = nI (82 + t) := nI_addE 82 t
      have a102 : (102 : Int32) + nI t = nI (102 + t) := nI_addE 102 t
      by_cases y0 : y = 0
      · rw [if_pos y0, if_pos y0, bn1_id, c_kindOf, rd_nI (by decide) ht, a2, ix_nI (by omega) (by omega), grd_t, nI_clE (by omega), e0]
        exact ⟨_, rfl, rfl⟩
      rw [if_neg y0, if_neg y0]
      by_cases y1 : y = 1
      · rw [if_pos y1, if_pos y1, bn1_id, c_madeOf, rd_nI (by decide) ht, a22, ix_nI (by omega) (by omega), grd_t, nI_clE (by omega), e1]
        exact ⟨_, rfl, rfl⟩
      rw [if_neg y1, if_neg y1]
      by_cases y2 : y = 2
      · rw [if_pos y2, if_pos y2, bn1_id, c_prevOf, rd_nI (by decide) ht, a42, ix_nI (by omega) (by omega), grd_t, nI_clE (by omega), e2]
        exact ⟨_, rfl, rfl⟩
      rw [if_neg y2, if_neg y2]
      by_cases y3 : y = 3
      · rw [if_pos y3, if_pos y3, bn1_id, c_ownerOf, rd_nI (by decide) ht, a62, ix_nI (by omega) (by omega), grd_t, nI_clE (by omega), e3]
        exact ⟨_, rfl, rfl⟩
      rw [if_neg y3, if_neg y3]
      by_cases y4 : y = 4
      · rw [if_pos y4, if_pos y4, bn1_id, m_isFiles hS, bn1_s, rd_nI (by decide) ht, ite10]
        by_cases hF : isF P t
        · rw [if_pos (show P 0 t = 0 ∨ P 0 t = 1 from hF), bn1_id, c_originOf hW ht hF, m_originOf hS hW ht hF]
          exact ⟨_, rfl, rfl⟩
        · rw [if_neg (show ¬ (P 0 t = 0 ∨ P 0 t = 1) from hF)]
          unfold xX4_originOf
          rw [c_isFiles, bn1_s, rd_nI (by decide) ht, ite10, if_neg (show ¬ (P 0 t = 0 ∨ P 0 t = 1) from hF)]
          exact ⟨_, rfl, rfl⟩
      rw [if_neg y4, if_neg y4]
      by_cases y5 : y = 5
      · rw [if_pos y5, if_pos y5, bn1_id, bn1_id, c_nextCount, m_nexts hS hW ht]
        exact ⟨_, rfl, rfl⟩
      rw [if_neg y5, if_neg y5]
      by_cases y6 : y = 6
      · rw [if_pos y6, if_pos y6, bn1_id, bn1_id, c_heldCount ht, m_heldMany hS hW ht]
        exact ⟨_, rfl, rfl⟩
      rw [if_neg y6, if_neg y6]
      by_cases y7 : y = 7
      · rw [if_pos y7, if_pos y7, bn1_id, c_tagsOf, rd_nI (by decide) ht, a102, ix_nI (by omega) (by omega), grd_t, nI_clE (by omega), e4]
        exact ⟨_, rfl, rfl⟩
      rw [if_neg y7, if_neg y7]
      by_cases y8 : y = 8
      · rw [if_pos y8, if_pos y8, bn1_id, c_quotaOf, rd_nI (by decide) ht, a82, ix_nI (by omega) (by omega), grd_t, nI_clE (by omega), e5]
        exact ⟨_, rfl, rfl⟩
      rw [if_neg y8, if_neg y8, bn1_id, bn1_id, c_ownCount, m_owned hS hW ht]
      exact ⟨_, rfl, rfl⟩
    · rw [if_neg hr, if_neg hr]
      exact ⟨_, rfl, rfl⟩
  · rw [if_neg hy, if_neg hy]
    exact ⟨_, rfl, rfl⟩
theorem q_slot (h : Good P s n) (x y : Int32) : ∃ r, xX7_slot P x y = some r ∧ xX8_slot s x y = some r := by
  obtain ⟨hI, hS, -⟩ := h
  unfold xX7_slot xX6_tellSlot xX8_slot
  rw [bn1_id, m_in, bn1_s, ite10]
  rw [show (12 : Int32) = nI (11 + 1) from L12, c_in2 (by decide), show (11 : Int32) = nI 11 from L11]
  by_cases hy : 0 ≤ y ∧ y ≤ nI 11
  · rw [if_pos hy, if_pos hy, c_refH, m_askedSlots hS hI.1, bn1_s, bn1_s]
    by_cases hr : refH P x = 0
    · rw [if_pos hr, if_pos hr]
      obtain ⟨t, ht, rfl, hk⟩ := refH_ok hI.1 hr
      obtain ⟨k, hk2, rfl⟩ := in_ex (by decide) hy
      have e := sim_slot hS ht (show k < 12 by omega) hk
      rw [bn1_id, c_blockIn, bi_nI ht (by omega)]
      refine ⟨_, rfl, ?_⟩
      have a : (122 : Int32) + nI (11 + 1) * nI t + nI k = nI (122 + 12 * t + k) := by
        rw [L122, nI_mulE, nI_addE, nI_addE]
      rw [a, ix_nI (by omega) (by omega), grd_t, nI_clE (by omega), e]
    · rw [if_neg hr, if_neg hr]
      exact ⟨_, rfl, rfl⟩
  · rw [if_neg hy, if_neg hy]
    exact ⟨_, rfl, rfl⟩
theorem q_taken (h : Good P s n) (x y : Int32) : ∃ r, xX7_taken P x y = some r ∧ xX8_taken s x y = some r := by
  obtain ⟨hI, hS, -⟩ := h
  unfold xX7_taken xX6_tellTaken xX8_taken
  rw [bn1_id, c_in, m_in, bn1_s, ite10]
  by_cases hy : 0 ≤ y ∧ y ≤ 4
  · rw [if_pos hy, if_pos hy, c_refA, m_asked hS, bn1_s, bn1_s]
    by_cases hr : refA P x y = 0
    · rw [if_pos hr, if_pos hr]
      obtain ⟨t, ht, rfl, hk, -⟩ := refA_ok hr
      have e := (hS.2.2.1 t ht hk).1
      have a22 : (22 : Int32) + nI t = nI (22 + t) := nI_addE 22 t
      rw [bn1_id, c_madeOf, rd_nI (by decide) ht, a22, ix_nI (by omega) (by omega), grd_t, nI_clE (by omega), e]
      exact ⟨_, rfl, rfl⟩
    · rw [if_neg hr, if_neg hr]
      exact ⟨_, rfl, rfl⟩
  · rw [if_neg hy, if_neg hy]
    exact ⟨_, rfl, rfl⟩
/-- has slots: both sides ask it -/
theorem c_holder (hI : I_kind P) (x : Int32) : xX4_isHolder P x = some (if hsk (rd 20 (P 0) m1 x) then 1 else 0) := by
  rw [c_isHolder]
  rcases arg_ix x (n := 20) (by decide) with h | ⟨t, ht, rfl⟩
  · rw [rd_o h, if_pos (Or.inl rfl), if_neg (by decide)]
  · rw [rd_nI (by decide) ht]
    rcases hI t ht with z | z | z
    · rw [if_pos (Or.inl z), if_neg (fun y => nhs_m1 z (hsk_hs.mp y))]
    · rw [if_neg (fun y => y.elim (sN z) (s4 z)), if_pos (hsk_hs.mpr z)]
    · rw [if_pos (Or.inr z), if_neg (fun y => nhs_4 z (hsk_hs.mp y))]
theorem hsk_ok {x : Int32} (h : hsk (rd 20 (P 0) m1 x) = true) : ∃ t, t < 20 ∧ x = nI t ∧ hs P t := by
  rcases arg_ix x (n := 20) (by decide) with z | ⟨t, ht, rfl⟩
  · rw [rd_o z] at h; exact absurd h (by decide)
  · rw [rd_nI (by decide) ht] at h; exact ⟨t, ht, rfl, hsk_hs.mp h⟩
theorem q_space (h : Good P s n) (x : Int32) : ∃ r, xX7_space P x = some r ∧ xX8_space s x = some r := by
  obtain ⟨hI, hS, -⟩ := h
  unfold xX7_space xX8_space
  rw [c_holder hI.1, m_hasSlots hS, bn1_s, bn1_s, ite10, ite10]
  by_cases hk : hsk (rd 20 (P 0) m1 x) = true
  · rw [if_pos hk, if_pos hk]
    obtain ⟨t, ht, rfl, ht2⟩ := hsk_ok hk
    rw [bn1_id, bn1_id, c_space ht, m_spaceOf hS hI.w ht ht2]
    exact ⟨_, rfl, rfl⟩
  · rw [if_neg hk, if_neg hk]
    exact ⟨_, rfl, rfl⟩
theorem m_things (hS : Sim P s) : xX8_things s = some (nI (thc P)) := by
  unfold xX8_things thc
  refine loop0 (fun m i r => xX8_things_4 s m r (nI i)) (fun i => nI (cnt (fun j => decide (P 0 j ≠ m1)) i)) _ 20 600 (by decide) ?_ ?_
  · intro m t ht
    simp only [xX8_things_4, m_isThing hS, rd_nI (show 20 < 2147483648 by decide) ht, cnt_s]
    by_cases z : P 0 t = m1
    · simp only [z, ne_eq, not_true, decide_false, Bool.false_eq_true, if_false, Nat.add_zero]
      simp (disch := omega) only [L0, L1, L2, L3, L4, L5, L8, L9, L10, L11, L12, L19, L20, L22, L40, L42, L60, L62, L82, L95, L96, L100, L102, L122, L240, L256, L362, L458, L554, L1000000000, L100000, Lm1, nI_addE, nI_mulE, nI_inj, nI_ltE, nI_leE, nI_clE, nI_m1, m1_nI, m1_lt, m1_le, nI_lt_m1, nI_le_m1, ix_nI, dT_le, dF_le, dT_lt, dF_lt, dT_eq, dF_eq, iT, iF, grd_t, lt1_s, bn1_s, bn2_s, bn3_s, bn4_s, bn5_s, nI_add0, if_true]
    · simp only [z, ne_eq, not_false_iff, decide_true, if_true]
      simp (disch := omega) only [L0, L1, L2, L3, L4, L5, L8, L9, L10, L11, L12, L19, L20, L22, L40, L42, L60, L62, L82, L95, L96, L100, L102, L122, L240, L256, L362, L458, L554, L1000000000, L100000, Lm1, nI_addE, nI_mulE, nI_inj, nI_ltE, nI_leE, nI_clE, nI_m1, m1_nI, m1_lt, m1_le, nI_lt_m1, nI_le_m1, ix_nI, dT_le, dF_le, dT_lt, dF_lt, dT_eq, dF_eq, iT, iF, grd_t, lt1_s, bn1_s, bn2_s, bn3_s, bn4_s, bn5_s, nI_add0, z, if_false]
  · intro m
    simp only [xX8_things_4]
    simp (disch := omega) only [L0, L1, L2, L3, L4, L5, L8, L9, L10, L11, L12, L19, L20, L22, L40, L42, L60, L62, L82, L95, L96, L100, L102, L122, L240, L256, L362, L458, L554, L1000000000, L100000, Lm1, nI_addE, nI_mulE, nI_inj, nI_ltE, nI_leE, nI_clE, nI_m1, m1_nI, m1_lt, m1_le, nI_lt_m1, nI_le_m1, ix_nI, dT_le, dF_le, dT_lt, dF_lt, dT_eq, dF_eq, iT, iF, grd_t, lt1_s, bn1_s, bn2_s, bn3_s, bn4_s, bn5_s, nI_add0]
theorem m_blocks (hS : Sim P s) (hz : W_size P) : xX8_blocks s = some (nI (blc P)) := by
  unfold xX8_blocks blc
  refine loop0 (fun m i r => xX8_blocks_4 s m r (nI i)) (fun i => nI (cnt (fun j => decide (P 7 j ≠ 0)) i)) _ 96 600 (by decide) ?_ ?_
  · intro m b hb
    have e := hS.2.2.2.2.1 b hb
    have z0 : (P 7 b ≤ nI 0) = (P 7 b = 0) := by
      have := (hz b hb).1
      unfold sz1 at this
      rw [show nI 0 = (0 : Int32) from rfl, Int32.le_iff_toInt_le, ← Int32.toInt_inj]
      rw [show (0 : Int32).toInt = 0 by decide]
      exact propext ⟨fun _ => by omega, fun _ => by omega⟩
    simp only [xX8_blocks_4, cnt_s]
    by_cases z : P 7 b = 0
    · simp only [z, ne_eq, not_true, decide_false, Bool.false_eq_true, if_false, Nat.add_zero]
      simp (disch := omega) only [L0, L1, L2, L3, L4, L5, L8, L9, L10, L11, L12, L19, L20, L22, L40, L42, L60, L62, L82, L95, L96, L100, L102, L122, L240, L256, L362, L458, L554, L1000000000, L100000, Lm1, nI_addE, nI_mulE, nI_inj, nI_ltE, nI_leE, nI_clE, nI_m1, m1_nI, m1_lt, m1_le, nI_lt_m1, nI_le_m1, ix_nI, dT_le, dF_le, dT_lt, dF_lt, dT_eq, dF_eq, iT, iF, grd_t, lt1_s, bn1_s, bn2_s, bn3_s, bn4_s, bn5_s, nI_add0, e, z, if_true]
    · have z1 : (P 7 b ≤ nI 0) = False := by rw [z0]; exact eq_false z
      simp only [z, ne_eq, not_false_iff, decide_true, if_true]
      simp (disch := omega) only [L0, L1, L2, L3, L4, L5, L8, L9, L10, L11, L12, L19, L20, L22, L40, L42, L60, L62, L82, L95, L96, L100, L102, L122, L240, L256, L362, L458, L554, L1000000000, L100000, Lm1, nI_addE, nI_mulE, nI_inj, nI_ltE, nI_leE, nI_clE, nI_m1, m1_nI, m1_lt, m1_le, nI_lt_m1, nI_le_m1, ix_nI, dT_le, dF_le, dT_lt, dF_lt, dT_eq, dF_eq, iT, iF, grd_t, lt1_s, bn1_s, bn2_s, bn3_s, bn4_s, bn5_s, nI_add0, e, z1, if_false]
  · intro m
    simp only [xX8_blocks_4]
    simp (disch := omega) only [L0, L1, L2, L3, L4, L5, L8, L9, L10, L11, L12, L19, L20, L22, L40, L42, L60, L62, L82, L95, L96, L100, L102, L122, L240, L256, L362, L458, L554, L1000000000, L100000, Lm1, nI_addE, nI_mulE, nI_inj, nI_ltE, nI_leE, nI_clE, nI_m1, m1_nI, m1_lt, m1_le, nI_lt_m1, nI_le_m1, ix_nI, dT_le, dF_le, dT_lt, dF_lt, dT_eq, dF_eq, iT, iF, grd_t, lt1_s, bn1_s, bn2_s, bn3_s, bn4_s, bn5_s, nI_add0]
theorem q_count (h : Good P s n) (x : Int32) : ∃ r, xX7_count P x = some r ∧ xX8_count s x = some r := by
  obtain ⟨hI, hS, -⟩ := h
  unfold xX7_count xX8_count
  by_cases h0 : x = 0
  · rw [if_pos h0, if_pos h0, bn1_id, bn1_id, c_thingCount, m_things hS]
    exact ⟨_, rfl, rfl⟩
  rw [if_neg h0, if_neg h0]
  by_cases h1 : x = 1
  · rw [if_pos h1, if_pos h1, bn1_id, bn1_id, c_blockCount, m_blocks hS hI.w.2.2.2.2.2.2.2.2.1]
    exact ⟨_, rfl, rfl⟩
  rw [if_neg h1, if_neg h1]
  by_cases h2 : x = 2
  · rw [if_pos h2, if_pos h2, bn1_id, c_now]
    refine ⟨_, rfl, ?_⟩
    show some (s 0) = _
    rw [hS.1.1]
  rw [if_neg h2, if_neg h2]
  by_cases h3 : x = 3
  · rw [if_pos h3, if_pos h3, bn1_id, c_freedCount]
    refine ⟨_, rfl, ?_⟩
    show some (s 1) = _
    rw [hS.1.2]
  rw [if_neg h3, if_neg h3]
  exact ⟨_, rfl, rfl⟩
end
