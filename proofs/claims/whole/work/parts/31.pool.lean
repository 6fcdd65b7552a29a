/-! ===== the class's pool, as pure facts ===== -/
abbrev PSt := Nat → Nat → Int32
theorem arg_ix (x : Int32) {n : Nat} (hn : n < 2147483648) : (x < 0 ∨ nI n ≤ x) ∨ ∃ j : Nat, j < n ∧ x = nI j := by
  rcases pk_ix x (n := n) hn with h | h | h
  · exact Or.inl (Or.inl h)
  · exact Or.inl (Or.inr h)
  · exact Or.inr h
def rd (N : Nat) (row : Nat → Int32) (d x : Int32) : Int32 := if x < 0 then d else if nI N ≤ x then d else row x.toNatClampNeg
theorem rd_nI {N : Nat} {row : Nat → Int32} {d : Int32} {t : Nat} (hN : N < 2147483648) (ht : t < N) : rd N row d (nI t) = row t := by
  unfold rd
  simp (disch := omega) only [L0, L1, L2, L3, L4, L5, L8, L9, L10, L11, L12, L19, L20, L22, L40, L42, L60, L62, L82, L95, L96, L100, L102, L122, L240, L256, L362, L458, L554, L1000000000, L100000, Lm1, nI_addE, nI_mulE, nI_inj, nI_ltE, nI_leE, nI_clE, nI_m1, m1_nI, m1_lt, m1_le, nI_lt_m1, nI_le_m1, ix_nI, dT_le, dF_le, dT_lt, dF_lt, dT_eq, dF_eq, iT, iF, grd_t, lt1_s, bn1_s, bn2_s, bn3_s, bn4_s, bn5_s, nI_add0]
theorem rd_m1 {N : Nat} {row : Nat → Int32} {d : Int32} : rd N row d m1 = d := by
  unfold rd
  rw [if_pos (by decide)]
theorem rd_o {N : Nat} {row : Nat → Int32} {d x : Int32} (h : x < 0 ∨ nI N ≤ x) : rd N row d x = d := by
  unfold rd
  rcases h with h | h
  · rw [if_pos h]
  · rw [if_pos h]
    split <;> rfl
theorem ix_of {x : Int32} {n : Nat} (hn : n < 2147483648) (h1 : ¬ x < 0) (h2 : ¬ nI n ≤ x) : ix x n = true := by
  rcases arg_ix x hn with h | ⟨j, hj, rfl⟩
  · rcases h with h | h
    · exact absurd h h1
    · exact absurd h h2
  · exact ix_nI (by omega) hj
theorem c_rd {x d : Int32} {N : Nat} (hN : N < 2147483648) {row : Nat → Int32} : (if x < 0 then some d else if nI N ≤ x then some d else grd (ix x N) (some (row x.toNatClampNeg))) = some (rd N row d x) := by
  unfold rd
  by_cases h1 : x < 0
  · rw [if_pos h1, if_pos h1]
  · rw [if_neg h1, if_neg h1]
    by_cases h2 : nI N ≤ x
    · rw [if_pos h2, if_pos h2]
    · rw [if_neg h2, if_neg h2, ix_of hN h1 h2]
      rfl
theorem c_kindOf (P : PSt) (x : Int32) : xX4_kindOf P x = some (rd 20 (P 0) m1 x) := c_rd (by decide)
theorem c_madeOf (P : PSt) (x : Int32) : xX4_madeOf P x = some (rd 20 (P 1) 0 x) := c_rd (by decide)
theorem c_prevOf (P : PSt) (x : Int32) : xX4_prevOf P x = some (rd 20 (P 2) m1 x) := c_rd (by decide)
theorem c_ownerOf (P : PSt) (x : Int32) : xX4_ownerOf P x = some (rd 20 (P 3) m1 x) := c_rd (by decide)
theorem c_tagsOf (P : PSt) (x : Int32) : xX4_tagsOf P x = some (rd 20 (P 4) 0 x) := c_rd (by decide)
theorem c_quotaOf (P : PSt) (x : Int32) : xX4_quotaOf P x = some (rd 20 (P 5) m1 x) := c_rd (by decide)
theorem c_sizeOf (P : PSt) (x : Int32) : xX4_sizeOf P x = some (rd 96 (P 7) 0 x) := c_rd (by decide)
theorem c_birthOf (P : PSt) (x : Int32) : xX4_birthOf P x = some (rd 96 (P 8) 0 x) := c_rd (by decide)
theorem c_now (P : PSt) : xX4_now P = some (P 9 0) := rfl
theorem c_freedCount (P : PSt) : xX4_freedCount P = some (P 10 0) := rfl
/-- the block in a slot -/
def bi (P : PSt) (x y : Int32) : Int32 := if x < 0 then m1 else if nI 20 ≤ x then m1 else if y < 0 then m1 else if nI 12 ≤ y then m1 else P 6 (x.toNatClampNeg * 12 + y.toNatClampNeg)
theorem bi_nI {P : PSt} {t k : Nat} (ht : t < 20) (hk : k < 12) : bi P (nI t) (nI k) = P 6 (t * 12 + k) := by
  unfold bi
  simp (disch := omega) only [L0, L1, L2, L3, L4, L5, L8, L9, L10, L11, L12, L19, L20, L22, L40, L42, L60, L62, L82, L95, L96, L100, L102, L122, L240, L256, L362, L458, L554, L1000000000, L100000, Lm1, nI_addE, nI_mulE, nI_inj, nI_ltE, nI_leE, nI_clE, nI_m1, m1_nI, m1_lt, m1_le, nI_lt_m1, nI_le_m1, ix_nI, dT_le, dF_le, dT_lt, dF_lt, dT_eq, dF_eq, iT, iF, grd_t, lt1_s, bn1_s, bn2_s, bn3_s, bn4_s, bn5_s, nI_add0]
theorem bi_m1 {P : PSt} {y : Int32} : bi P m1 y = m1 := by
  unfold bi
  rw [if_pos (by decide)]
theorem c_blockIn (P : PSt) (x y : Int32) : xX4_blockIn P x y = some (bi P x y) := by
  unfold xX4_blockIn bi
  rcases arg_ix x (n := 20) (by decide) with h | ⟨t, ht, rfl⟩
  · rcases h with h | h
    · rw [if_pos h, if_pos h]
    · by_cases h0 : x < 0
      · rw [if_pos h0, if_pos h0]
      · rw [if_neg h0, if_neg h0, if_pos (show (20 : Int32) ≤ x from h), if_pos h]
  · rcases arg_ix y (n := 12) (by decide) with h | ⟨k, hk, rfl⟩
    · simp (disch := omega) only [L0, L1, L2, L3, L4, L5, L8, L9, L10, L11, L12, L19, L20, L22, L40, L42, L60, L62, L82, L95, L96, L100, L102, L122, L240, L256, L362, L458, L554, L1000000000, L100000, Lm1, nI_addE, nI_mulE, nI_inj, nI_ltE, nI_leE, nI_clE, nI_m1, m1_nI, m1_lt, m1_le, nI_lt_m1, nI_le_m1, ix_nI, dT_le, dF_le, dT_lt, dF_lt, dT_eq, dF_eq, iT, iF, grd_t, lt1_s, bn1_s, bn2_s, bn3_s, bn4_s, bn5_s, nI_add0]
      rcases h with h | h
      · rw [if_pos (show y < nI 0 from h), if_pos (show y < nI 0 from h)]
      · by_cases h0 : y < nI 0
        · rw [if_pos h0, if_pos h0]
        · rw [if_neg h0, if_neg h0, if_pos h, if_pos h]
    · simp (disch := omega) only [L0, L1, L2, L3, L4, L5, L8, L9, L10, L11, L12, L19, L20, L22, L40, L42, L60, L62, L82, L95, L96, L100, L102, L122, L240, L256, L362, L458, L554, L1000000000, L100000, Lm1, nI_addE, nI_mulE, nI_inj, nI_ltE, nI_leE, nI_clE, nI_m1, m1_nI, m1_lt, m1_le, nI_lt_m1, nI_le_m1, ix_nI, dT_le, dF_le, dT_lt, dF_lt, dT_eq, dF_eq, iT, iF, grd_t, lt1_s, bn1_s, bn2_s, bn3_s, bn4_s, bn5_s, nI_add0]
theorem c_setSlot {P : PSt} {t k : Nat} {v : Int32} (ht : t < 20) (hk : k < 12) : xX4_setSlot P (nI t) (nI k) v = some (st P 6 (t * 12 + k) v) := by
  unfold xX4_setSlot
  simp (disch := omega) only [L0, L1, L2, L3, L4, L5, L8, L9, L10, L11, L12, L19, L20, L22, L40, L42, L60, L62, L82, L95, L96, L100, L102, L122, L240, L256, L362, L458, L554, L1000000000, L100000, Lm1, nI_addE, nI_mulE, nI_inj, nI_ltE, nI_leE, nI_clE, nI_m1, m1_nI, m1_lt, m1_le, nI_lt_m1, nI_le_m1, ix_nI, dT_le, dF_le, dT_lt, dF_lt, dT_eq, dF_eq, iT, iF, grd_t, lt1_s, bn1_s, bn2_s, bn3_s, bn4_s, bn5_s, nI_add0]
theorem c_setPrev {P : PSt} {t : Nat} {v : Int32} (ht : t < 20) : xX4_setPrev P (nI t) v = some (st P 2 t v) := by
  unfold xX4_setPrev
  simp (disch := omega) only [L0, L1, L2, L3, L4, L5, L8, L9, L10, L11, L12, L19, L20, L22, L40, L42, L60, L62, L82, L95, L96, L100, L102, L122, L240, L256, L362, L458, L554, L1000000000, L100000, Lm1, nI_addE, nI_mulE, nI_inj, nI_ltE, nI_leE, nI_clE, nI_m1, m1_nI, m1_lt, m1_le, nI_lt_m1, nI_le_m1, ix_nI, dT_le, dF_le, dT_lt, dF_lt, dT_eq, dF_eq, iT, iF, grd_t, lt1_s, bn1_s, bn2_s, bn3_s, bn4_s, bn5_s, nI_add0]
theorem c_setOwner {P : PSt} {t : Nat} {v : Int32} (ht : t < 20) : xX4_setOwner P (nI t) v = some (st P 3 t v) := by
  unfold xX4_setOwner
  simp (disch := omega) only [L0, L1, L2, L3, L4, L5, L8, L9, L10, L11, L12, L19, L20, L22, L40, L42, L60, L62, L82, L95, L96, L100, L102, L122, L240, L256, L362, L458, L554, L1000000000, L100000, Lm1, nI_addE, nI_mulE, nI_inj, nI_ltE, nI_leE, nI_clE, nI_m1, m1_nI, m1_lt, m1_le, nI_lt_m1, nI_le_m1, ix_nI, dT_le, dF_le, dT_lt, dF_lt, dT_eq, dF_eq, iT, iF, grd_t, lt1_s, bn1_s, bn2_s, bn3_s, bn4_s, bn5_s, nI_add0]
theorem c_setTags {P : PSt} {t : Nat} {v : Int32} (ht : t < 20) : xX4_setTags P (nI t) v = some (st P 4 t v) := by
  unfold xX4_setTags
  simp (disch := omega) only [L0, L1, L2, L3, L4, L5, L8, L9, L10, L11, L12, L19, L20, L22, L40, L42, L60, L62, L82, L95, L96, L100, L102, L122, L240, L256, L362, L458, L554, L1000000000, L100000, Lm1, nI_addE, nI_mulE, nI_inj, nI_ltE, nI_leE, nI_clE, nI_m1, m1_nI, m1_lt, m1_le, nI_lt_m1, nI_le_m1, ix_nI, dT_le, dF_le, dT_lt, dF_lt, dT_eq, dF_eq, iT, iF, grd_t, lt1_s, bn1_s, bn2_s, bn3_s, bn4_s, bn5_s, nI_add0]
theorem c_setQuota {P : PSt} {t : Nat} {v : Int32} (ht : t < 20) : xX4_setQuota P (nI t) v = some (st P 5 t v) := by
  unfold xX4_setQuota
  simp (disch := omega) only [L0, L1, L2, L3, L4, L5, L8, L9, L10, L11, L12, L19, L20, L22, L40, L42, L60, L62, L82, L95, L96, L100, L102, L122, L240, L256, L362, L458, L554, L1000000000, L100000, Lm1, nI_addE, nI_mulE, nI_inj, nI_ltE, nI_leE, nI_clE, nI_m1, m1_nI, m1_lt, m1_le, nI_lt_m1, nI_le_m1, ix_nI, dT_le, dF_le, dT_lt, dF_lt, dT_eq, dF_eq, iT, iF, grd_t, lt1_s, bn1_s, bn2_s, bn3_s, bn4_s, bn5_s, nI_add0]
theorem c_setTime {P : PSt} {v : Int32} : xX4_setTime P v = some (st P 9 0 v) := rfl
/-- a block goes -/
def frb (P : PSt) (b : Nat) : PSt := st (st (st P 7 b 0) 8 b 0) 10 0 (P 10 0 + 1)
theorem c_freeBlock {P : PSt} {b : Nat} (hb : b < 96) : xX4_freeBlock P (nI b) = some (frb P b) := by
  unfold xX4_freeBlock frb
  simp (disch := omega) only [L0, L1, L2, L3, L4, L5, L8, L9, L10, L11, L12, L19, L20, L22, L40, L42, L60, L62, L82, L95, L96, L100, L102, L122, L240, L256, L362, L458, L554, L1000000000, L100000, Lm1, nI_addE, nI_mulE, nI_inj, nI_ltE, nI_leE, nI_clE, nI_m1, m1_nI, m1_lt, m1_le, nI_lt_m1, nI_le_m1, ix_nI, dT_le, dF_le, dT_lt, dF_lt, dT_eq, dF_eq, iT, iF, grd_t, lt1_s, bn1_s, bn2_s, bn3_s, bn4_s, bn5_s, nI_add0]
  simp only [st_ne1 (show (10 : Nat) ≠ 8 by decide), st_ne1 (show (10 : Nat) ≠ 7 by decide)]
theorem c_isFiles (P : PSt) (x : Int32) : xX4_isFiles P x = some (if rd 20 (P 0) m1 x = 0 ∨ rd 20 (P 0) m1 x = 1 then 1 else 0) := by
  unfold xX4_isFiles
  rw [c_kindOf, bn1_s]
  by_cases h0 : rd 20 (P 0) m1 x = 0
  · rw [if_pos h0, if_pos (Or.inl h0)]
  · rw [if_neg h0]
    by_cases h1 : rd 20 (P 0) m1 x = 1
    · rw [if_pos h1, if_pos (Or.inr h1)]
    · rw [if_neg h1, if_neg (by simp [h0, h1])]
theorem c_isSnapshot (P : PSt) (x : Int32) : xX4_isSnapshot P x = some (if rd 20 (P 0) m1 x = 2 ∨ rd 20 (P 0) m1 x = 3 then 1 else 0) := by
  unfold xX4_isSnapshot
  rw [c_kindOf, bn1_s]
  by_cases h0 : rd 20 (P 0) m1 x = 2
  · rw [if_pos h0, if_pos (Or.inl h0)]
  · rw [if_neg h0]
    by_cases h1 : rd 20 (P 0) m1 x = 3
    · rw [if_pos h1, if_pos (Or.inr h1)]
    · rw [if_neg h1, if_neg (by simp [h0, h1])]
theorem c_isHolder (P : PSt) (x : Int32) : xX4_isHolder P x = some (if rd 20 (P 0) m1 x = m1 ∨ rd 20 (P 0) m1 x = 4 then 0 else 1) := by
  unfold xX4_isHolder
  rw [c_kindOf, bn1_s]
  by_cases h0 : rd 20 (P 0) m1 x = m1
  · rw [if_pos h0, if_pos (Or.inl h0)]
  · rw [if_neg h0]
    by_cases h1 : rd 20 (P 0) m1 x = 4
    · rw [if_pos h1, if_pos (Or.inr h1)]
    · rw [if_neg h1, if_neg (by simp [h0, h1])]
/-! loops of the pool -/
def nxc (P : PSt) (x : Int32) : Nat := cnt (fun j => decide (P 2 j = x)) 20
theorem c_nextCount (P : PSt) (x : Int32) : xX4_nextCount P x = some (nI (nxc P x)) := by
  unfold xX4_nextCount
  refine loop0 (fun n i s => xX4_nextCount_4 P n x s (nI i)) (fun i => nI (cnt (fun j => decide (P 2 j = x)) i)) _ 20 600 (by decide) ?_ ?_
  · intro n i hi
    simp only [xX4_nextCount_4, cnt_s]
    by_cases h : P 2 i = x
    · simp (disch := omega) only [L0, L1, L2, L3, L4, L5, L8, L9, L10, L11, L12, L19, L20, L22, L40, L42, L60, L62, L82, L95, L96, L100, L102, L122, L240, L256, L362, L458, L554, L1000000000, L100000, Lm1, nI_addE, nI_mulE, nI_inj, nI_ltE, nI_leE, nI_clE, nI_m1, m1_nI, m1_lt, m1_le, nI_lt_m1, nI_le_m1, ix_nI, dT_le, dF_le, dT_lt, dF_lt, dT_eq, dF_eq, iT, iF, grd_t, lt1_s, bn1_s, bn2_s, bn3_s, bn4_s, bn5_s, nI_add0, h, decide_true, if_true]
    · simp (disch := omega) only [L0, L1, L2, L3, L4, L5, L8, L9, L10, L11, L12, L19, L20, L22, L40, L42, L60, L62, L82, L95, L96, L100, L102, L122, L240, L256, L362, L458, L554, L1000000000, L100000, Lm1, nI_addE, nI_mulE, nI_inj, nI_ltE, nI_leE, nI_clE, nI_m1, m1_nI, m1_lt, m1_le, nI_lt_m1, nI_le_m1, ix_nI, dT_le, dF_le, dT_lt, dF_lt, dT_eq, dF_eq, iT, iF, grd_t, lt1_s, bn1_s, bn2_s, bn3_s, bn4_s, bn5_s, nI_add0, h, decide_false, Bool.false_eq_true, if_false, Nat.add_zero]
  · intro n
    simp only [xX4_nextCount_4]
    simp (disch := omega) only [L0, L1, L2, L3, L4, L5, L8, L9, L10, L11, L12, L19, L20, L22, L40, L42, L60, L62, L82, L95, L96, L100, L102, L122, L240, L256, L362, L458, L554, L1000000000, L100000, Lm1, nI_addE, nI_mulE, nI_inj, nI_ltE, nI_leE, nI_clE, nI_m1, m1_nI, m1_lt, m1_le, nI_lt_m1, nI_le_m1, ix_nI, dT_le, dF_le, dT_lt, dF_lt, dT_eq, dF_eq, iT, iF, grd_t, lt1_s, bn1_s, bn2_s, bn3_s, bn4_s, bn5_s, nI_add0, nxc]
def owc (P : PSt) (x : Int32) : Nat := cnt (fun j => decide (P 3 j = x)) 20
theorem c_ownCount (P : PSt) (x : Int32) : xX4_ownCount P x = some (nI (owc P x)) := by
  unfold xX4_ownCount
  refine loop0 (fun n i s => xX4_ownCount_4 P n x s (nI i)) (fun i => nI (cnt (fun j => decide (P 3 j = x)) i)) _ 20 600 (by decide) ?_ ?_
  · intro n i hi
    simp only [xX4_ownCount_4, cnt_s]
    by_cases h : P 3 i = x
    · simp (disch := omega) only [L0, L1, L2, L3, L4, L5, L8, L9, L10, L11, L12, L19, L20, L22, L40, L42, L60, L62, L82, L95, L96, L100, L102, L122, L240, L256, L362, L458, L554, L1000000000, L100000, Lm1, nI_addE, nI_mulE, nI_inj, nI_ltE, nI_leE, nI_clE, nI_m1, m1_nI, m1_lt, m1_le, nI_lt_m1, nI_le_m1, ix_nI, dT_le, dF_le, dT_lt, dF_lt, dT_eq, dF_eq, iT, iF, grd_t, lt1_s, bn1_s, bn2_s, bn3_s, bn4_s, bn5_s, nI_add0, h, decide_true, if_true]
    · simp (disch := omega) only [L0, L1, L2, L3, L4, L5, L8, L9, L10, L11, L12, L19, L20, L22, L40, L42, L60, L62, L82, L95, L96, L100, L102, L122, L240, L256, L362, L458, L554, L1000000000, L100000, Lm1, nI_addE, nI_mulE, nI_inj, nI_ltE, nI_leE, nI_clE, nI_m1, m1_nI, m1_lt, m1_le, nI_lt_m1, nI_le_m1, ix_nI, dT_le, dF_le, dT_lt, dF_lt, dT_eq, dF_eq, iT, iF, grd_t, lt1_s, bn1_s, bn2_s, bn3_s, bn4_s, bn5_s, nI_add0, h, decide_false, Bool.false_eq_true, if_false, Nat.add_zero]
  · intro n
    simp only [xX4_ownCount_4]
    simp (disch := omega) only [L0, L1, L2, L3, L4, L5, L8, L9, L10, L11, L12, L19, L20, L22, L40, L42, L60, L62, L82, L95, L96, L100, L102, L122, L240, L256, L362, L458, L554, L1000000000, L100000, Lm1, nI_addE, nI_mulE, nI_inj, nI_ltE, nI_leE, nI_clE, nI_m1, m1_nI, m1_lt, m1_le, nI_lt_m1, nI_le_m1, ix_nI, dT_le, dF_le, dT_lt, dF_lt, dT_eq, dF_eq, iT, iF, grd_t, lt1_s, bn1_s, bn2_s, bn3_s, bn4_s, bn5_s, nI_add0, owc]
def thc (P : PSt) : Nat := cnt (fun j => decide (P 0 j ≠ m1)) 20
theorem c_thingCount (P : PSt) : xX4_thingCount P = some (nI (thc P)) := by
  unfold xX4_thingCount
  refine loop0 (fun n i s => xX4_thingCount_4 P n s (nI i)) (fun i => nI (cnt (fun j => decide (P 0 j ≠ m1)) i)) _ 20 600 (by decide) ?_ ?_
  · intro n i hi
    simp only [xX4_thingCount_4, cnt_s]
    by_cases h : P 0 i = m1
    · simp (disch := omega) only [L0, L1, L2, L3, L4, L5, L8, L9, L10, L11, L12, L19, L20, L22, L40, L42, L60, L62, L82, L95, L96, L100, L102, L122, L240, L256, L362, L458, L554, L1000000000, L100000, Lm1, nI_addE, nI_mulE, nI_inj, nI_ltE, nI_leE, nI_clE, nI_m1, m1_nI, m1_lt, m1_le, nI_lt_m1, nI_le_m1, ix_nI, dT_le, dF_le, dT_lt, dF_lt, dT_eq, dF_eq, iT, iF, grd_t, lt1_s, bn1_s, bn2_s, bn3_s, bn4_s, bn5_s, nI_add0, h, ne_eq, not_true, decide_false, Bool.false_eq_true, if_false, Nat.add_zero]
    · simp (disch := omega) only [L0, L1, L2, L3, L4, L5, L8, L9, L10, L11, L12, L19, L20, L22, L40, L42, L60, L62, L82, L95, L96, L100, L102, L122, L240, L256, L362, L458, L554, L1000000000, L100000, Lm1, nI_addE, nI_mulE, nI_inj, nI_ltE, nI_leE, nI_clE, nI_m1, m1_nI, m1_lt, m1_le, nI_lt_m1, nI_le_m1, ix_nI, dT_le, dF_le, dT_lt, dF_lt, dT_eq, dF_eq, iT, iF, grd_t, lt1_s, bn1_s, bn2_s, bn3_s, bn4_s, bn5_s, nI_add0, h, ne_eq, not_false_eq_true, decide_true, if_true, if_false]
  · intro n
    simp only [xX4_thingCount_4]
    simp (disch := omega) only [L0, L1, L2, L3, L4, L5, L8, L9, L10, L11, L12, L19, L20, L22, L40, L42, L60, L62, L82, L95, L96, L100, L102, L122, L240, L256, L362, L458, L554, L1000000000, L100000, Lm1, nI_addE, nI_mulE, nI_inj, nI_ltE, nI_leE, nI_clE, nI_m1, m1_nI, m1_lt, m1_le, nI_lt_m1, nI_le_m1, ix_nI, dT_le, dF_le, dT_lt, dF_lt, dT_eq, dF_eq, iT, iF, grd_t, lt1_s, bn1_s, bn2_s, bn3_s, bn4_s, bn5_s, nI_add0, thc]
def blc (P : PSt) : Nat := cnt (fun j => decide (P 7 j ≠ 0)) 96
theorem c_blockCount (P : PSt) : xX4_blockCount P = some (nI (blc P)) := by
  unfold xX4_blockCount
  refine loop0 (fun n i s => xX4_blockCount_4 P n s (nI i)) (fun i => nI (cnt (fun j => decide (P 7 j ≠ 0)) i)) _ 96 600 (by decide) ?_ ?_
  · intro n i hi
    simp only [xX4_blockCount_4, cnt_s]
    by_cases h : P 7 i = 0
    · have h' : (P 7 i = nI 0) = True := eq_true h
      simp (disch := omega) only [L0, L1, L2, L3, L4, L5, L8, L9, L10, L11, L12, L19, L20, L22, L40, L42, L60, L62, L82, L95, L96, L100, L102, L122, L240, L256, L362, L458, L554, L1000000000, L100000, Lm1, nI_addE, nI_mulE, nI_inj, nI_ltE, nI_leE, nI_clE, nI_m1, m1_nI, m1_lt, m1_le, nI_lt_m1, nI_le_m1, ix_nI, dT_le, dF_le, dT_lt, dF_lt, dT_eq, dF_eq, iT, iF, grd_t, lt1_s, bn1_s, bn2_s, bn3_s, bn4_s, bn5_s, nI_add0, h', ne_eq, not_true, decide_false, Bool.false_eq_true, if_false, Nat.add_zero]
    · have h' : (P 7 i = nI 0) = False := eq_false h
      simp (disch := omega) only [L0, L1, L2, L3, L4, L5, L8, L9, L10, L11, L12, L19, L20, L22, L40, L42, L60, L62, L82, L95, L96, L100, L102, L122, L240, L256, L362, L458, L554, L1000000000, L100000, Lm1, nI_addE, nI_mulE, nI_inj, nI_ltE, nI_leE, nI_clE, nI_m1, m1_nI, m1_lt, m1_le, nI_lt_m1, nI_le_m1, ix_nI, dT_le, dF_le, dT_lt, dF_lt, dT_eq, dF_eq, iT, iF, grd_t, lt1_s, bn1_s, bn2_s, bn3_s, bn4_s, bn5_s, nI_add0, h', ne_eq, not_false_eq_true, decide_true, if_true, if_false]
  · intro n
    simp only [xX4_blockCount_4]
    simp (disch := omega) only [L0, L1, L2, L3, L4, L5, L8, L9, L10, L11, L12, L19, L20, L22, L40, L42, L60, L62, L82, L95, L96, L100, L102, L122, L240, L256, L362, L458, L554, L1000000000, L100000, Lm1, nI_addE, nI_mulE, nI_inj, nI_ltE, nI_leE, nI_clE, nI_m1, m1_nI, m1_lt, m1_le, nI_lt_m1, nI_le_m1, ix_nI, dT_le, dF_le, dT_lt, dF_lt, dT_eq, dF_eq, iT, iF, grd_t, lt1_s, bn1_s, bn2_s, bn3_s, bn4_s, bn5_s, nI_add0, blc]
def sumL (f : Nat → Int64) : Nat → Int64
  | 0 => 0
  | n + 1 => sumL f n + f n
theorem sumL_s (f : Nat → Int64) (n : Nat) : sumL f (n + 1) = sumL f n + f n := rfl
theorem sumL_cong {f g : Nat → Int64} : ∀ {n : Nat}, (∀ k, k < n → f k = g k) → sumL f n = sumL g n
  | 0, _ => rfl
  | n + 1, h => by rw [sumL_s, sumL_s, sumL_cong (fun k hk => h k (by omega)), h n (by omega)]
theorem c_sizeOfAll (P : PSt) : xX4_sizeOfAll P = some (sumL (fun b => (P 7 b).toInt64) 96) := by
  unfold xX4_sizeOfAll
  refine loop0 (fun n i s => xX4_sizeOfAll_4 P n s (nI i)) (fun i => sumL (fun b => (P 7 b).toInt64) i) _ 96 600 (by decide) ?_ ?_
  · intro n i hi
    simp only [xX4_sizeOfAll_4, sumL_s]
    simp (disch := omega) only [L0, L1, L2, L3, L4, L5, L8, L9, L10, L11, L12, L19, L20, L22, L40, L42, L60, L62, L82, L95, L96, L100, L102, L122, L240, L256, L362, L458, L554, L1000000000, L100000, Lm1, nI_addE, nI_mulE, nI_inj, nI_ltE, nI_leE, nI_clE, nI_m1, m1_nI, m1_lt, m1_le, nI_lt_m1, nI_le_m1, ix_nI, dT_le, dF_le, dT_lt, dF_lt, dT_eq, dF_eq, iT, iF, grd_t, lt1_s, bn1_s, bn2_s, bn3_s, bn4_s, bn5_s, nI_add0]
  · intro n
    simp only [xX4_sizeOfAll_4]
    simp (disch := omega) only [L0, L1, L2, L3, L4, L5, L8, L9, L10, L11, L12, L19, L20, L22, L40, L42, L60, L62, L82, L95, L96, L100, L102, L122, L240, L256, L362, L458, L554, L1000000000, L100000, Lm1, nI_addE, nI_mulE, nI_inj, nI_ltE, nI_leE, nI_clE, nI_m1, m1_nI, m1_lt, m1_le, nI_lt_m1, nI_le_m1, ix_nI, dT_le, dF_le, dT_lt, dF_lt, dT_eq, dF_eq, iT, iF, grd_t, lt1_s, bn1_s, bn2_s, bn3_s, bn4_s, bn5_s, nI_add0]
theorem c_spaceOf (P : PSt) (x : Int32) : xX4_spaceOf P x = some (sumL (fun k => (rd 96 (P 7) 0 (bi P x (nI k))).toInt64) 12) := by
  unfold xX4_spaceOf
  refine loop0 (fun n i s => xX4_spaceOf_5 P n x s (nI i)) (fun i => sumL (fun k => (rd 96 (P 7) 0 (bi P x (nI k))).toInt64) i) _ 12 600 (by decide) ?_ ?_
  · intro n i hi
    simp only [xX4_spaceOf_5, sumL_s, c_blockIn, c_sizeOf]
    simp (disch := omega) only [L0, L1, L2, L3, L4, L5, L8, L9, L10, L11, L12, L19, L20, L22, L40, L42, L60, L62, L82, L95, L96, L100, L102, L122, L240, L256, L362, L458, L554, L1000000000, L100000, Lm1, nI_addE, nI_mulE, nI_inj, nI_ltE, nI_leE, nI_clE, nI_m1, m1_nI, m1_lt, m1_le, nI_lt_m1, nI_le_m1, ix_nI, dT_le, dF_le, dT_lt, dF_lt, dT_eq, dF_eq, iT, iF, grd_t, lt1_s, bn1_s, bn2_s, bn3_s, bn4_s, bn5_s, nI_add0]
  · intro n
    simp only [xX4_spaceOf_5]
    simp (disch := omega) only [L0, L1, L2, L3, L4, L5, L8, L9, L10, L11, L12, L19, L20, L22, L40, L42, L60, L62, L82, L95, L96, L100, L102, L122, L240, L256, L362, L458, L554, L1000000000, L100000, Lm1, nI_addE, nI_mulE, nI_inj, nI_ltE, nI_leE, nI_clE, nI_m1, m1_nI, m1_lt, m1_le, nI_lt_m1, nI_le_m1, ix_nI, dT_le, dF_le, dT_lt, dF_lt, dT_eq, dF_eq, iT, iF, grd_t, lt1_s, bn1_s, bn2_s, bn3_s, bn4_s, bn5_s, nI_add0]
theorem c_newThing (P : PSt) (kk md : Int32) {N : Nat} (hN : fst1 (fun j => decide (P 0 j = m1)) 20 = N) : xX4_newThing P kk md = some (if N < 20 then (nI N, st (st P 0 N kk) 1 N md) else (-4, P)) := by
  unfold xX4_newThing
  have hle : N ≤ 20 := hN ▸ fst1_le _ 20
  refine loop0 (fun n i s => xX4_newThing_2 n kk md (nI i) s) (fun _ => P) _ N 600 (by omega) ?_ ?_
  · intro n i hi
    have h : ¬ P 0 i = m1 := by
      have := fst1_no (fun j => decide (P 0 j = m1)) 20 i (by omega)
      simpa using this
    simp only [xX4_newThing_2]
    simp (disch := omega) only [L0, L1, L2, L3, L4, L5, L8, L9, L10, L11, L12, L19, L20, L22, L40, L42, L60, L62, L82, L95, L96, L100, L102, L122, L240, L256, L362, L458, L554, L1000000000, L100000, Lm1, nI_addE, nI_mulE, nI_inj, nI_ltE, nI_leE, nI_clE, nI_m1, m1_nI, m1_lt, m1_le, nI_lt_m1, nI_le_m1, ix_nI, dT_le, dF_le, dT_lt, dF_lt, dT_eq, dF_eq, iT, iF, grd_t, lt1_s, bn1_s, bn2_s, bn3_s, bn4_s, bn5_s, nI_add0, h, if_false]
  · intro n
    simp only [xX4_newThing_2]
    by_cases h20 : N < 20
    · have h : P 0 N = m1 := by
        have := fst1_yes (fun j => decide (P 0 j = m1)) 20 (by omega)
        rw [hN] at this
        simpa using this
      simp (disch := omega) only [L0, L1, L2, L3, L4, L5, L8, L9, L10, L11, L12, L19, L20, L22, L40, L42, L60, L62, L82, L95, L96, L100, L102, L122, L240, L256, L362, L458, L554, L1000000000, L100000, Lm1, nI_addE, nI_mulE, nI_inj, nI_ltE, nI_leE, nI_clE, nI_m1, m1_nI, m1_lt, m1_le, nI_lt_m1, nI_le_m1, ix_nI, dT_le, dF_le, dT_lt, dF_lt, dT_eq, dF_eq, iT, iF, grd_t, lt1_s, bn1_s, bn2_s, bn3_s, bn4_s, bn5_s, nI_add0, h, if_true]
    · have : N = 20 := by omega
      subst this
      simp (disch := omega) only [L0, L1, L2, L3, L4, L5, L8, L9, L10, L11, L12, L19, L20, L22, L40, L42, L60, L62, L82, L95, L96, L100, L102, L122, L240, L256, L362, L458, L554, L1000000000, L100000, Lm1, nI_addE, nI_mulE, nI_inj, nI_ltE, nI_leE, nI_clE, nI_m1, m1_nI, m1_lt, m1_le, nI_lt_m1, nI_le_m1, ix_nI, dT_le, dF_le, dT_lt, dF_lt, dT_eq, dF_eq, iT, iF, grd_t, lt1_s, bn1_s, bn2_s, bn3_s, bn4_s, bn5_s, nI_add0]
theorem c_newBlock (P : PSt) (sz : Int32) {N : Nat} (hN : fst1 (fun j => decide (P 7 j = 0)) 96 = N) : xX4_newBlock P sz = some (if N < 96 then (nI N, st (st P 7 N sz) 8 N (P 9 0)) else (-4, P)) := by
  unfold xX4_newBlock
  have hle : N ≤ 96 := hN ▸ fst1_le _ 96
  refine loop0 (fun n i s => xX4_newBlock_2 n sz (nI i) s) (fun _ => P) _ N 600 (by omega) ?_ ?_
  · intro n i hi
    have h : ¬ P 7 i = 0 := by
      have := fst1_no (fun j => decide (P 7 j = 0)) 96 i (by omega)
      simpa using this
    have h' : (P 7 i = nI 0) = False := eq_false h
    simp only [xX4_newBlock_2]
    simp (disch := omega) only [L0, L1, L2, L3, L4, L5, L8, L9, L10, L11, L12, L19, L20, L22, L40, L42, L60, L62, L82, L95, L96, L100, L102, L122, L240, L256, L362, L458, L554, L1000000000, L100000, Lm1, nI_addE, nI_mulE, nI_inj, nI_ltE, nI_leE, nI_clE, nI_m1, m1_nI, m1_lt, m1_le, nI_lt_m1, nI_le_m1, ix_nI, dT_le, dF_le, dT_lt, dF_lt, dT_eq, dF_eq, iT, iF, grd_t, lt1_s, bn1_s, bn2_s, bn3_s, bn4_s, bn5_s, nI_add0, h', if_false]
  · intro n
    simp only [xX4_newBlock_2]
    by_cases h20 : N < 96
    · have h : P 7 N = 0 := by
        have := fst1_yes (fun j => decide (P 7 j = 0)) 96 (by omega)
        rw [hN] at this
        simpa using this
      have h' : (P 7 N = nI 0) = True := eq_true h
      simp (disch := omega) only [L0, L1, L2, L3, L4, L5, L8, L9, L10, L11, L12, L19, L20, L22, L40, L42, L60, L62, L82, L95, L96, L100, L102, L122, L240, L256, L362, L458, L554, L1000000000, L100000, Lm1, nI_addE, nI_mulE, nI_inj, nI_ltE, nI_leE, nI_clE, nI_m1, m1_nI, m1_lt, m1_le, nI_lt_m1, nI_le_m1, ix_nI, dT_le, dF_le, dT_lt, dF_lt, dT_eq, dF_eq, iT, iF, grd_t, lt1_s, bn1_s, bn2_s, bn3_s, bn4_s, bn5_s, nI_add0, h', if_true]
      simp only [st_ne1 (show (9 : Nat) ≠ 7 by decide)]
    · have : N = 96 := by omega
      subst this
      simp (disch := omega) only [L0, L1, L2, L3, L4, L5, L8, L9, L10, L11, L12, L19, L20, L22, L40, L42, L60, L62, L82, L95, L96, L100, L102, L122, L240, L256, L362, L458, L554, L1000000000, L100000, Lm1, nI_addE, nI_mulE, nI_inj, nI_ltE, nI_leE, nI_clE, nI_m1, m1_nI, m1_lt, m1_le, nI_lt_m1, nI_le_m1, ix_nI, dT_le, dF_le, dT_lt, dF_lt, dT_eq, dF_eq, iT, iF, grd_t, lt1_s, bn1_s, bn2_s, bn3_s, bn4_s, bn5_s, nI_add0]
theorem c_firstNext {P : PSt} {x : Int32} {u : Nat} (hu : u < 20) (h1 : P 0 u ≠ m1) (h2 : P 2 u = x) (h3 : ∀ j, j < 20 → j ≠ u → P 2 j ≠ x) : xX4_firstNext P x = some (nI u) := by
  unfold xX4_firstNext
  refine loop0 (fun n i (_ : Unit) => xX4_firstNext_2 P n x (nI i)) (fun _ => ()) _ u 600 (by omega) ?_ ?_
  · intro n i hi
    simp only [xX4_firstNext_2]
    have h4 : (P 2 i = x) = False := eq_false (h3 i (by omega) (by omega))
    by_cases h : P 0 i = m1
    · simp (disch := omega) only [L0, L1, L2, L3, L4, L5, L8, L9, L10, L11, L12, L19, L20, L22, L40, L42, L60, L62, L82, L95, L96, L100, L102, L122, L240, L256, L362, L458, L554, L1000000000, L100000, Lm1, nI_addE, nI_mulE, nI_inj, nI_ltE, nI_leE, nI_clE, nI_m1, m1_nI, m1_lt, m1_le, nI_lt_m1, nI_le_m1, ix_nI, dT_le, dF_le, dT_lt, dF_lt, dT_eq, dF_eq, iT, iF, grd_t, lt1_s, bn1_s, bn2_s, bn3_s, bn4_s, bn5_s, nI_add0, h]
    · simp (disch := omega) only [L0, L1, L2, L3, L4, L5, L8, L9, L10, L11, L12, L19, L20, L22, L40, L42, L60, L62, L82, L95, L96, L100, L102, L122, L240, L256, L362, L458, L554, L1000000000, L100000, Lm1, nI_addE, nI_mulE, nI_inj, nI_ltE, nI_leE, nI_clE, nI_m1, m1_nI, m1_lt, m1_le, nI_lt_m1, nI_le_m1, ix_nI, dT_le, dF_le, dT_lt, dF_lt, dT_eq, dF_eq, iT, iF, grd_t, lt1_s, bn1_s, bn2_s, bn3_s, bn4_s, bn5_s, nI_add0, h, h4]
  · intro n
    simp only [xX4_firstNext_2]
    simp (disch := omega) only [L0, L1, L2, L3, L4, L5, L8, L9, L10, L11, L12, L19, L20, L22, L40, L42, L60, L62, L82, L95, L96, L100, L102, L122, L240, L256, L362, L458, L554, L1000000000, L100000, Lm1, nI_addE, nI_mulE, nI_inj, nI_ltE, nI_leE, nI_clE, nI_m1, m1_nI, m1_lt, m1_le, nI_lt_m1, nI_le_m1, ix_nI, dT_le, dF_le, dT_lt, dF_lt, dT_eq, dF_eq, iT, iF, grd_t, lt1_s, bn1_s, bn2_s, bn3_s, bn4_s, bn5_s, nI_add0, eq_false h1, eq_true h2]
