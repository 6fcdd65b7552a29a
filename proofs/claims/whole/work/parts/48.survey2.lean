/-! ===== since, common ===== -/
theorem sumL_zero {f : Nat → Int64} : ∀ {n : Nat}, (∀ k, k < n → f k = 0) → sumL f n = 0
  | 0, _ => rfl
  | n + 1, h => by rw [sumL_s, sumL_zero (fun k hk => h k (by omega)), h n (by omega)]; rfl
theorem sum_up {f g : Nat → Int64} {i : Nat} {v : Int64} : ∀ {n : Nat}, i < n → (∀ k, k < n → k ≠ i → g k = f k) → g i = f i + v → sumL g n = sumL f n + v
  | 0, h, _, _ => by omega
  | n + 1, h, h1, h2 => by
    rw [sumL_s, sumL_s]
    by_cases e : i = n
    · subst e
      rw [h2, sumL_cong (fun k hk => h1 k (by omega) (by omega)), Int64.add_assoc]
    · rw [sum_up (by omega) (fun k hk hk2 => h1 k (by omega) hk2) h2, h1 n (by omega) (by omega), Int64.add_assoc, Int64.add_assoc, Int64.add_comm v]
theorem Z64 (x : Int64) : 0 + x = x := by simp
/-- a sum over slots is a sum over blocks -/
theorem sum_sl {c : Nat → Int32} {F : Nat → Int64} {N : Nat} (h1 : ∀ k, k < N → c k = m1 ∨ ∃ b, b < 96 ∧ c k = nI b) (h2 : ∀ k k' b, k < N → k' < N → b < 96 → c k = nI b → c k' = nI b → k = k') : ∀ K, K ≤ N → sumL (fun k => if c k = m1 then 0 else F (c k).toNatClampNeg) K = sumL (fun b => if 0 < cnt (fun k => decide (c k = nI b)) K then F b else 0) 96
  | 0, _ => by
    rw [sumL_zero (n := 96) (fun b _ => if_neg (by show ¬ 0 < 0; omega))]
    rfl
  | K + 1, hK => by
    rw [sumL_s, sum_sl h1 h2 K (by omega)]
    rcases h1 K (by omega) with z | ⟨b0, hb0, z⟩
    · rw [if_pos z, L64_0]
      refine sumL_cong (fun b hb => ?_)
      rw [cnt_s, z, show decide (m1 = nI b) = false by rw [decide_eq_false_iff_not]; exact Ne.symm (nI_ne_m1 (by omega))]
      rfl
    · rw [if_neg (by rw [z]; exact nI_ne_m1 (by omega)), z, nI_clE (by omega)]
      refine (sum_up hb0 (fun b hb hne => ?_) ?_).symm
      · rw [cnt_s, z, show decide (nI b0 = nI b) = false by rw [decide_eq_false_iff_not]; exact fun y => hne (nI_lt_inj (by omega) (by omega) y).symm]
        rfl
      · have h0 : cnt (fun k => decide (c k = nI b0)) K = 0 := by
          rw [cnt_zero]
          intro k hk
          rw [decide_eq_false_iff_not]
          intro y
          have := h2 k K b0 (by omega) (by omega) hb0 y z
          omega
        rw [cnt_s, h0, z]
        rw [if_neg (show ¬ 0 < 0 by omega), Z64, if_pos]
        simp only [decide_true, if_true]
        omega
section
variable {P : PSt} {s : RSt} {n : Nat}
/-- does a thing hold a block -/
def hdb (P : PSt) (t b : Nat) : Bool := decide (0 < cnt (fun k => decide (P 6 (t * 12 + k) = nI b)) 12)
theorem hdb_iff {t b : Nat} : hdb P t b = true ↔ ∃ k, k < 12 ∧ hl P t k b := by
  unfold hdb hl
  rw [decide_eq_true_eq, cnt_pos]
  constructor
  · rintro ⟨k, hk, z⟩; exact ⟨k, hk, of_decide_eq_true z⟩
  · rintro ⟨k, hk, z⟩; exact ⟨k, hk, decide_eq_true z⟩
def hdf (P : PSt) (t b : Nat) : Nat → Int32
  | 0 => 0
  | k + 1 => if P 6 (t * 12 + k) = nI b then 1 else hdf P t b k
theorem hdf_s {t b k : Nat} : hdf P t b (k + 1) = if P 6 (t * 12 + k) = nI b then 1 else hdf P t b k := rfl
theorem hdf_c {t b : Nat} : ∀ k, hdf P t b k = if 0 < cnt (fun k => decide (P 6 (t * 12 + k) = nI b)) k then 1 else 0
  | 0 => rfl
  | k + 1 => by
    rw [hdf_s, hdf_c k]
    have e := cnt_s (fun k => decide (P 6 (t * 12 + k) = nI b)) k
    by_cases z : P 6 (t * 12 + k) = nI b
    · rw [if_pos z, if_pos]
      rw [e, if_pos (decide_eq_true z)]
      omega
    · rw [if_neg z]
      rw [if_neg (by rw [decide_eq_true_eq]; exact z)] at e
      rw [e]
      rfl
theorem hdf_01 {t b : Nat} (k : Nat) : hdf P t b k = 0 ∨ hdf P t b k = 1 := by
  rw [hdf_c]
  split
  · exact Or.inr rfl
  · exact Or.inl rfl
theorem m_isHeld (hS : Sim P s) (hW : WInv P) {t b : Nat} (ht : t < 20) (hb : b < 96) : xX8_isHeld s (nI t) (nI b) = some (if hdb P t b then 1 else 0) := by
  have hfin : (if hdb P t b = true then (1 : Int32) else 0) = hdf P t b 12 := by
    rw [hdf_c]
    unfold hdb
    by_cases z : 0 < cnt (fun k => decide (P 6 (t * 12 + k) = nI b)) 12
    · rw [if_pos z, if_pos (decide_eq_true z)]
    · rw [if_neg z, if_neg (by rw [decide_eq_true_eq]; exact z)]
  rw [hfin]
  unfold xX8_isHeld
  refine loop0 (fun m i r => xX8_isHeld_5 s m (nI t) (nI b) r (nI i)) (fun i => hdf P t b i) _ 12 600 (by decide) ?_ ?_
  · intro m k hk
    simp only [xX8_isHeld_5, m_hasT hS ht, hdf_s]
    rcases hdf_01 (P := P) (t := t) (b := b) k with e0 | e0
    · rw [e0]
      by_cases h : hs P t
      · have hk1 := hsk_hs.mpr h
        have e := sim_slot hS ht hk h
        by_cases z : P 6 (t * 12 + k) = nI b
        · rw [z] at e
          simp only [hk1, z, if_true]
          simp (disch := omega) only [L0, L1, L2, L3, L4, L5, L8, L9, L10, L11, L12, L19, L20, L22, L40, L42, L60, L62, L82, L95, L96, L100, L102, L122, L240, L256, L362, L458, L554, L1000000000, L100000, Lm1, nI_addE, nI_mulE, nI_inj, nI_ltE, nI_leE, nI_clE, nI_m1, m1_nI, m1_lt, m1_le, nI_lt_m1, nI_le_m1, ix_nI, dT_le, dF_le, dT_lt, dF_lt, dT_eq, dF_eq, iT, iF, grd_t, lt1_s, bn1_s, bn2_s, bn3_s, bn4_s, bn5_s, nI_add0, e, if_true]
        · simp only [hk1, z, if_true, if_false]
          simp (disch := omega) only [L0, L1, L2, L3, L4, L5, L8, L9, L10, L11, L12, L19, L20, L22, L40, L42, L60, L62, L82, L95, L96, L100, L102, L122, L240, L256, L362, L458, L554, L1000000000, L100000, Lm1, nI_addE, nI_mulE, nI_inj, nI_ltE, nI_leE, nI_clE, nI_m1, m1_nI, m1_lt, m1_le, nI_lt_m1, nI_le_m1, ix_nI, dT_le, dF_le, dT_lt, dF_lt, dT_eq, dF_eq, iT, iF, grd_t, lt1_s, bn1_s, bn2_s, bn3_s, bn4_s, bn5_s, nI_add0, e, z, if_true, if_false]
      · have hk1 : hsk (P 0 t) = false := by
          cases z : hsk (P 0 t) with
          | false => rfl
          | true => exact absurd (hsk_hs.mp z) h
        have z := (hW.2.2.1 t ht h).2.2 k hk
        simp only [hk1, z, Bool.false_eq_true, if_false]
        simp (disch := omega) only [L0, L1, L2, L3, L4, L5, L8, L9, L10, L11, L12, L19, L20, L22, L40, L42, L60, L62, L82, L95, L96, L100, L102, L122, L240, L256, L362, L458, L554, L1000000000, L100000, Lm1, nI_addE, nI_mulE, nI_inj, nI_ltE, nI_leE, nI_clE, nI_m1, m1_nI, m1_lt, m1_le, nI_lt_m1, nI_le_m1, ix_nI, dT_le, dF_le, dT_lt, dF_lt, dT_eq, dF_eq, iT, iF, grd_t, lt1_s, bn1_s, bn2_s, bn3_s, bn4_s, bn5_s, nI_add0]
    · have e1 : (if P 6 (t * 12 + k) = nI b then (1 : Int32) else 1) = 1 := by split <;> rfl
      rw [e0, e1]
      simp (disch := omega) only [L0, L1, L2, L3, L4, L5, L8, L9, L10, L11, L12, L19, L20, L22, L40, L42, L60, L62, L82, L95, L96, L100, L102, L122, L240, L256, L362, L458, L554, L1000000000, L100000, Lm1, nI_addE, nI_mulE, nI_inj, nI_ltE, nI_leE, nI_clE, nI_m1, m1_nI, m1_lt, m1_le, nI_lt_m1, nI_le_m1, ix_nI, dT_le, dF_le, dT_lt, dF_lt, dT_eq, dF_eq, iT, iF, grd_t, lt1_s, bn1_s, bn2_s, bn3_s, bn4_s, bn5_s, nI_add0]
  · intro m
    simp only [xX8_isHeld_5]
    rcases hdf_01 (P := P) (t := t) (b := b) 12 with e0 | e0
    · rw [e0]; rfl
    · rw [e0]; rfl
theorem q_since (h : Good P s n) (x y : Int32) : ∃ r, xX7_since P x y = some r ∧ xX8_since s x y = some r := by
  obtain ⟨hI, hS, -⟩ := h
  have hW := hI.w
  unfold xX7_since xX6_sizeSince xX8_since
  rw [bn1_id, c_holder hI.1, m_hasSlots hS, bn1_s, bn1_s, ite10, ite10]
  by_cases hk : hsk (rd 20 (P 0) m1 x) = true
  · rw [if_pos hk, if_pos hk, c_kindOf, m_isThing hS, bn1_s, bn1_s]
    obtain ⟨t, ht, rfl, ht2⟩ := hsk_ok hk
    rcases arg_ix y (n := 20) (by decide) with z | ⟨u, hu, rfl⟩
    · rw [rd_o z, if_pos rfl, if_pos rfl, if_pos zero_eq]
      exact ⟨_, rfl, rfl⟩
    rw [rd_nI (by decide) hu]
    by_cases hu2 : P 0 u = m1
    · rw [if_pos hu2, if_pos hu2, if_pos zero_eq]
      exact ⟨_, rfl, rfl⟩
    rw [if_neg hu2, if_neg hu2, if_neg one_ne]
    have e22 := (hS.2.2.1 u hu hu2).1
    refine ⟨sumL (fun k => if rd 96 (P 8) 0 (P 6 (t * 12 + k)) ≤ P 1 u then 0 else (szs P t k).toInt64) 12, ?_, ?_⟩
    · refine loop0 (fun m i r => xX6_sizeSince_32 P m (nI t) (nI u) r (nI i)) (fun i => sumL (fun k => if rd 96 (P 8) 0 (P 6 (t * 12 + k)) ≤ P 1 u then 0 else (szs P t k).toInt64) i) _ 12 600 (by decide) ?_ ?_
      · intro m k hk
        simp only [xX6_sizeSince_32, c_blockIn, bi_nI ht hk, c_birthOf, c_madeOf, rd_nI (show 20 < 2147483648 by decide) hu, c_sizeOf, sumL_s]
        unfold szs
        simp (disch := omega) only [L0, L1, L2, L3, L4, L5, L8, L9, L10, L11, L12, L19, L20, L22, L40, L42, L60, L62, L82, L95, L96, L100, L102, L122, L240, L256, L362, L458, L554, L1000000000, L100000, Lm1, nI_addE, nI_mulE, nI_inj, nI_ltE, nI_leE, nI_clE, nI_m1, m1_nI, m1_lt, m1_le, nI_lt_m1, nI_le_m1, ix_nI, dT_le, dF_le, dT_lt, dF_lt, dT_eq, dF_eq, iT, iF, grd_t, lt1_s, bn1_s, bn2_s, bn3_s, bn4_s, bn5_s, nI_add0]
        by_cases z : rd 96 (P 8) (nI 0) (P 6 (t * 12 + k)) ≤ P 1 u
        · rw [if_pos z, if_pos z, L64_0]
        · rw [if_neg z, if_neg z]
      · intro m
        simp only [xX6_sizeSince_32]
        simp (disch := omega) only [L0, L1, L2, L3, L4, L5, L8, L9, L10, L11, L12, L19, L20, L22, L40, L42, L60, L62, L82, L95, L96, L100, L102, L122, L240, L256, L362, L458, L554, L1000000000, L100000, Lm1, nI_addE, nI_mulE, nI_inj, nI_ltE, nI_leE, nI_clE, nI_m1, m1_nI, m1_lt, m1_le, nI_lt_m1, nI_le_m1, ix_nI, dT_le, dF_le, dT_lt, dF_lt, dT_eq, dF_eq, iT, iF, grd_t, lt1_s, bn1_s, bn2_s, bn3_s, bn4_s, bn5_s, nI_add0]
    · refine loop0 (fun m i r => xX8_since_25 s m (nI t) (nI u) r (nI i)) (fun i => sumL (fun k => if rd 96 (P 8) 0 (P 6 (t * 12 + k)) ≤ P 1 u then 0 else (szs P t k).toInt64) i) _ 12 600 (by decide) ?_ ?_
      · intro m k hk
        have e := sim_slot hS ht hk ht2
        simp only [xX8_since_25, sumL_s]
        unfold szs
        rcases hW.2.2.2.2.2.2.2.1 t k ht hk with z | ⟨b, hb, z, hb2⟩
        · rw [z] at e
          rw [z, rd_m1, rd_m1]
          have : (if (0 : Int32) ≤ P 1 u then (0 : Int64) else (0 : Int32).toInt64) = 0 := by split <;> rfl
          rw [this]
          simp (disch := omega) only [L0, L1, L2, L3, L4, L5, L8, L9, L10, L11, L12, L19, L20, L22, L40, L42, L60, L62, L82, L95, L96, L100, L102, L122, L240, L256, L362, L458, L554, L1000000000, L100000, Lm1, nI_addE, nI_mulE, nI_inj, nI_ltE, nI_leE, nI_clE, nI_m1, m1_nI, m1_lt, m1_le, nI_lt_m1, nI_le_m1, ix_nI, dT_le, dF_le, dT_lt, dF_lt, dT_eq, dF_eq, iT, iF, grd_t, lt1_s, bn1_s, bn2_s, bn3_s, bn4_s, bn5_s, nI_add0, e, L64_0]
        · have z' : P 6 (t * 12 + k) = nI b := z
          rw [z'] at e
          rw [z', rd_nI (by decide) hb, rd_nI (by decide) hb]
          have e7 := hS.2.2.2.2.1 b hb
          have e8 := hS.2.2.2.2.2 b hb (by rw [sz_ne]; omega)
          by_cases y : P 8 b ≤ P 1 u
          · rw [if_pos y]
            simp (disch := omega) only [L0, L1, L2, L3, L4, L5, L8, L9, L10, L11, L12, L19, L20, L22, L40, L42, L60, L62, L82, L95, L96, L100, L102, L122, L240, L256, L362, L458, L554, L1000000000, L100000, Lm1, nI_addE, nI_mulE, nI_inj, nI_ltE, nI_leE, nI_clE, nI_m1, m1_nI, m1_lt, m1_le, nI_lt_m1, nI_le_m1, ix_nI, dT_le, dF_le, dT_lt, dF_lt, dT_eq, dF_eq, iT, iF, grd_t, lt1_s, bn1_s, bn2_s, bn3_s, bn4_s, bn5_s, nI_add0, e, e7, e8, e22, y, L64_0]
          · rw [if_neg y]
            simp (disch := omega) only [L0, L1, L2, L3, L4, L5, L8, L9, L10, L11, L12, L19, L20, L22, L40, L42, L60, L62, L82, L95, L96, L100, L102, L122, L240, L256, L362, L458, L554, L1000000000, L100000, Lm1, nI_addE, nI_mulE, nI_inj, nI_ltE, nI_leE, nI_clE, nI_m1, m1_nI, m1_lt, m1_le, nI_lt_m1, nI_le_m1, ix_nI, dT_le, dF_le, dT_lt, dF_lt, dT_eq, dF_eq, iT, iF, grd_t, lt1_s, bn1_s, bn2_s, bn3_s, bn4_s, bn5_s, nI_add0, e, e7, e8, e22, y, L64_0]
      · intro m
        simp only [xX8_since_25]
        simp (disch := omega) only [L0, L1, L2, L3, L4, L5, L8, L9, L10, L11, L12, L19, L20, L22, L40, L42, L60, L62, L82, L95, L96, L100, L102, L122, L240, L256, L362, L458, L554, L1000000000, L100000, Lm1, nI_addE, nI_mulE, nI_inj, nI_ltE, nI_leE, nI_clE, nI_m1, m1_nI, m1_lt, m1_le, nI_lt_m1, nI_le_m1, ix_nI, dT_le, dF_le, dT_lt, dF_lt, dT_eq, dF_eq, iT, iF, grd_t, lt1_s, bn1_s, bn2_s, bn3_s, bn4_s, bn5_s, nI_add0]
  · rw [if_neg hk, if_neg hk]
    exact ⟨_, rfl, rfl⟩
theorem sz0 (hz : W_size P) {b : Nat} (hb : b < 96) : (P 7 b ≤ nI 0) = (P 7 b = 0) := by
  have := (hz b hb).1
  unfold sz1 at this
  rw [show nI 0 = (0 : Int32) from rfl, Int32.le_iff_toInt_le, ← Int32.toInt_inj]
  rw [show (0 : Int32).toInt = 0 by decide]
  exact propext ⟨fun _ => by omega, fun _ => by omega⟩
/-- what two things hold in the same slot -/
def cmn (P : PSt) (t u k : Nat) : Int32 := if P 6 (t * 12 + k) = P 6 (u * 12 + k) then P 6 (t * 12 + k) else m1
theorem cmn_iff (hW : WInv P) {t u b : Nat} (ht : t < 20) (hu : u < 20) (hb : b < 96) : (0 < cnt (fun k => decide (cmn P t u k = nI b)) 12) ↔ (hdb P t b = true ∧ hdb P u b = true) := by
  rw [cnt_pos, hdb_iff, hdb_iff]
  constructor
  · rintro ⟨k, hk, z⟩
    have z := of_decide_eq_true z
    unfold cmn at z
    by_cases e : P 6 (t * 12 + k) = P 6 (u * 12 + k)
    · rw [if_pos e] at z
      exact ⟨⟨k, hk, z⟩, ⟨k, hk, by unfold hl; rw [← e]; exact z⟩⟩
    · rw [if_neg e] at z
      exact absurd z.symm (nI_ne_m1 (by omega))
  · rintro ⟨⟨k, hk, z⟩, ⟨k', hk', z'⟩⟩
    have := hW.2.2.2.2.2.2.2.2.2.1 t u k k' b ht hu hk hk' hb z z'
    subst this
    refine ⟨k, hk, decide_eq_true ?_⟩
    unfold cmn
    unfold hl at z z'
    rw [z, z', if_pos rfl]
theorem q_common (h : Good P s n) (x y : Int32) : ∃ r, xX7_common P x y = some r ∧ xX8_common s x y = some r := by
  obtain ⟨hI, hS, -⟩ := h
  have hW := hI.w
  unfold xX7_common xX6_sizeInBoth xX8_common
  rw [bn1_id, c_holder hI.1, m_hasSlots hS, bn1_s, bn1_s, ite10, ite10]
  by_cases hk : hsk (rd 20 (P 0) m1 x) = true
  · rw [if_pos hk, if_pos hk, c_holder hI.1, m_hasSlots hS, bn1_s, bn1_s, ite10, ite10]
    obtain ⟨t, ht, rfl, ht2⟩ := hsk_ok hk
    by_cases hk2 : hsk (rd 20 (P 0) m1 y) = true
    · rw [if_pos hk2, if_pos hk2]
      obtain ⟨u, hu, rfl, hu2⟩ := hsk_ok hk2
      have hc1 : ∀ k, k < 12 → cmn P t u k = m1 ∨ ∃ b, b < 96 ∧ cmn P t u k = nI b := by
        intro k hk
        unfold cmn
        by_cases e : P 6 (t * 12 + k) = P 6 (u * 12 + k)
        · rw [if_pos e]
          rcases hW.2.2.2.2.2.2.2.1 t k ht hk with z | ⟨b, hb, z, -⟩
          · exact Or.inl z
          · exact Or.inr ⟨b, hb, z⟩
        · rw [if_neg e]; exact Or.inl rfl
      have hc2 : ∀ k k' b, k < 12 → k' < 12 → b < 96 → cmn P t u k = nI b → cmn P t u k' = nI b → k = k' := by
        have hx : ∀ k b, b < 96 → cmn P t u k = nI b → hl P t k b := by
          intro k b hb z
          unfold cmn at z
          by_cases e : P 6 (t * 12 + k) = P 6 (u * 12 + k)
          · rw [if_pos e] at z; exact z
          · rw [if_neg e] at z; exact absurd z.symm (nI_ne_m1 (by omega))
        intro k k' b hk hk' hb z z'
        exact hW.2.2.2.2.2.2.2.2.2.1 t t k k' b ht ht hk hk' hb (hx k b hb z) (hx k' b hb z')
      have hsum := sum_sl (F := fun b => (P 7 b).toInt64) hc1 hc2 12 (by omega)
      refine ⟨sumL (fun k => if cmn P t u k = m1 then 0 else (fun b => (P 7 b).toInt64) (cmn P t u k).toNatClampNeg) 12, ?_, ?_⟩
      · refine loop0 (fun m i r => xX6_sizeInBoth_31 P m (nI t) (nI u) r (nI i)) (fun i => sumL (fun k => if cmn P t u k = m1 then 0 else (fun b => (P 7 b).toInt64) (cmn P t u k).toNatClampNeg) i) _ 12 600 (by decide) ?_ ?_
        · intro m k hk
          simp only [xX6_sizeInBoth_31, c_blockIn, bi_nI ht hk, bi_nI hu hk, c_sizeOf, sumL_s]
          by_cases e : P 6 (t * 12 + k) = P 6 (u * 12 + k)
          · have ec : cmn P t u k = P 6 (t * 12 + k) := if_pos e
            rw [ec]
            rcases hW.2.2.2.2.2.2.2.1 t k ht hk with z | ⟨b, hb, z, -⟩
            · rw [if_pos z]
              rw [z] at e
              rw [z, ← e]
              simp (disch := omega) only [L0, L1, L2, L3, L4, L5, L8, L9, L10, L11, L12, L19, L20, L22, L40, L42, L60, L62, L82, L95, L96, L100, L102, L122, L240, L256, L362, L458, L554, L1000000000, L100000, Lm1, nI_addE, nI_mulE, nI_inj, nI_ltE, nI_leE, nI_clE, nI_m1, m1_nI, m1_lt, m1_le, nI_lt_m1, nI_le_m1, ix_nI, dT_le, dF_le, dT_lt, dF_lt, dT_eq, dF_eq, iT, iF, grd_t, lt1_s, bn1_s, bn2_s, bn3_s, bn4_s, bn5_s, nI_add0, if_true, rd_m1]
              rfl
            · have z' : P 6 (t * 12 + k) = nI b := z
              rw [z'] at e
              rw [z', ← e]
              simp (disch := omega) only [L0, L1, L2, L3, L4, L5, L8, L9, L10, L11, L12, L19, L20, L22, L40, L42, L60, L62, L82, L95, L96, L100, L102, L122, L240, L256, L362, L458, L554, L1000000000, L100000, Lm1, nI_addE, nI_mulE, nI_inj, nI_ltE, nI_leE, nI_clE, nI_m1, m1_nI, m1_lt, m1_le, nI_lt_m1, nI_le_m1, ix_nI, dT_le, dF_le, dT_lt, dF_lt, dT_eq, dF_eq, iT, iF, grd_t, lt1_s, bn1_s, bn2_s, bn3_s, bn4_s, bn5_s, nI_add0, if_true, rd_nI]
          · have ec : cmn P t u k = m1 := if_neg e
            rw [ec, if_pos rfl, L64_0]
            simp (disch := omega) only [L0, L1, L2, L3, L4, L5, L8, L9, L10, L11, L12, L19, L20, L22, L40, L42, L60, L62, L82, L95, L96, L100, L102, L122, L240, L256, L362, L458, L554, L1000000000, L100000, Lm1, nI_addE, nI_mulE, nI_inj, nI_ltE, nI_leE, nI_clE, nI_m1, m1_nI, m1_lt, m1_le, nI_lt_m1, nI_le_m1, ix_nI, dT_le, dF_le, dT_lt, dF_lt, dT_eq, dF_eq, iT, iF, grd_t, lt1_s, bn1_s, bn2_s, bn3_s, bn4_s, bn5_s, nI_add0, e, if_false]
        · intro m
          simp only [xX6_sizeInBoth_31]
          simp (disch := omega) only [L0, L1, L2, L3, L4, L5, L8, L9, L10, L11, L12, L19, L20, L22, L40, L42, L60, L62, L82, L95, L96, L100, L102, L122, L240, L256, L362, L458, L554, L1000000000, L100000, Lm1, nI_addE, nI_mulE, nI_inj, nI_ltE, nI_leE, nI_clE, nI_m1, m1_nI, m1_lt, m1_le, nI_lt_m1, nI_le_m1, ix_nI, dT_le, dF_le, dT_lt, dF_lt, dT_eq, dF_eq, iT, iF, grd_t, lt1_s, bn1_s, bn2_s, bn3_s, bn4_s, bn5_s, nI_add0]
      · rw [hsum]
        refine loop0 (fun m i r => xX8_common_25 s m (nI t) (nI u) r (nI i)) (fun i => sumL (fun b => if 0 < cnt (fun k => decide (cmn P t u k = nI b)) 12 then (fun b => (P 7 b).toInt64) b else 0) i) _ 96 600 (by decide) ?_ ?_
        · intro m b hb
          have e7 := hS.2.2.2.2.1 b hb
          have hi := cmn_iff hW ht hu hb
          have hz := sz0 hW.2.2.2.2.2.2.2.2.1 hb
          simp only [xX8_common_25, m_isHeld hS hW ht hb, m_isHeld hS hW hu hb, sumL_s]
          by_cases z : P 7 b = 0
          · have : (if 0 < cnt (fun k => decide (cmn P t u k = nI b)) 12 then (P 7 b).toInt64 else 0) = 0 := by rw [z]; split <;> rfl
            rw [this]
            rw [z] at e7
            simp (disch := omega) only [L0, L1, L2, L3, L4, L5, L8, L9, L10, L11, L12, L19, L20, L22, L40, L42, L60, L62, L82, L95, L96, L100, L102, L122, L240, L256, L362, L458, L554, L1000000000, L100000, Lm1, nI_addE, nI_mulE, nI_inj, nI_ltE, nI_leE, nI_clE, nI_m1, m1_nI, m1_lt, m1_le, nI_lt_m1, nI_le_m1, ix_nI, dT_le, dF_le, dT_lt, dF_lt, dT_eq, dF_eq, iT, iF, grd_t, lt1_s, bn1_s, bn2_s, bn3_s, bn4_s, bn5_s, nI_add0, e7, L64_0]
          · have hz2 : (P 7 b ≤ nI 0) = False := by rw [hz]; exact eq_false z
            cases h1 : hdb P t b with
            | false =>
              have hv : (if 0 < cnt (fun k => decide (cmn P t u k = nI b)) 12 then (P 7 b).toInt64 else 0) = 0 := if_neg (fun y => by rw [h1] at hi; exact absurd (hi.mp y).1 (by decide))
              rw [hv]
              simp (disch := omega) only [L0, L1, L2, L3, L4, L5, L8, L9, L10, L11, L12, L19, L20, L22, L40, L42, L60, L62, L82, L95, L96, L100, L102, L122, L240, L256, L362, L458, L554, L1000000000, L100000, Lm1, nI_addE, nI_mulE, nI_inj, nI_ltE, nI_leE, nI_clE, nI_m1, m1_nI, m1_lt, m1_le, nI_lt_m1, nI_le_m1, ix_nI, dT_le, dF_le, dT_lt, dF_lt, dT_eq, dF_eq, iT, iF, grd_t, lt1_s, bn1_s, bn2_s, bn3_s, bn4_s, bn5_s, nI_add0, e7, hz2, Bool.false_eq_true, if_false, L64_0]
            | true =>
              cases h2 : hdb P u b with
              | false =>
                have hv : (if 0 < cnt (fun k => decide (cmn P t u k = nI b)) 12 then (P 7 b).toInt64 else 0) = 0 := if_neg (fun y => by rw [h2] at hi; exact absurd (hi.mp y).2 (by decide))
                rw [hv]
                simp (disch := omega) only [L0, L1, L2, L3, L4, L5, L8, L9, L10, L11, L12, L19, L20, L22, L40, L42, L60, L62, L82, L95, L96, L100, L102, L122, L240, L256, L362, L458, L554, L1000000000, L100000, Lm1, nI_addE, nI_mulE, nI_inj, nI_ltE, nI_leE, nI_clE, nI_m1, m1_nI, m1_lt, m1_le, nI_lt_m1, nI_le_m1, ix_nI, dT_le, dF_le, dT_lt, dF_lt, dT_eq, dF_eq, iT, iF, grd_t, lt1_s, bn1_s, bn2_s, bn3_s, bn4_s, bn5_s, nI_add0, e7, hz2, Bool.false_eq_true, if_false, if_true, L64_0]
              | true =>
                have hv : (if 0 < cnt (fun k => decide (cmn P t u k = nI b)) 12 then (P 7 b).toInt64 else 0) = (P 7 b).toInt64 := if_pos (hi.mpr ⟨h1, h2⟩)
                rw [hv]
                simp (disch := omega) only [L0, L1, L2, L3, L4, L5, L8, L9, L10, L11, L12, L19, L20, L22, L40, L42, L60, L62, L82, L95, L96, L100, L102, L122, L240, L256, L362, L458, L554, L1000000000, L100000, Lm1, nI_addE, nI_mulE, nI_inj, nI_ltE, nI_leE, nI_clE, nI_m1, m1_nI, m1_lt, m1_le, nI_lt_m1, nI_le_m1, ix_nI, dT_le, dF_le, dT_lt, dF_lt, dT_eq, dF_eq, iT, iF, grd_t, lt1_s, bn1_s, bn2_s, bn3_s, bn4_s, bn5_s, nI_add0, e7, hz2, if_true, L64_0]
        · intro m
          simp only [xX8_common_25]
          simp (disch := omega) only [L0, L1, L2, L3, L4, L5, L8, L9, L10, L11, L12, L19, L20, L22, L40, L42, L60, L62, L82, L95, L96, L100, L102, L122, L240, L256, L362, L458, L554, L1000000000, L100000, Lm1, nI_addE, nI_mulE, nI_inj, nI_ltE, nI_leE, nI_clE, nI_m1, m1_nI, m1_lt, m1_le, nI_lt_m1, nI_le_m1, ix_nI, dT_le, dF_le, dT_lt, dF_lt, dT_eq, dF_eq, iT, iF, grd_t, lt1_s, bn1_s, bn2_s, bn3_s, bn4_s, bn5_s, nI_add0]
    · rw [if_neg hk2, if_neg hk2]
      exact ⟨_, rfl, rfl⟩
  · rw [if_neg hk, if_neg hk]
    exact ⟨_, rfl, rfl⟩
end
