/-! ===== who holds a block: sets of things ===== -/
section
variable {P : PSt} {s : RSt} {n : Nat}
def hkb (P : PSt) (t b k : Nat) : Bool := decide (0 < cnt (fun k => decide (P 6 (t * 12 + k) = nI b)) k)
theorem hkb_s {t b k : Nat} : hkb P t b (k + 1) = (hkb P t b k || decide (P 6 (t * 12 + k) = nI b)) := by
  unfold hkb
  have e := cnt_s (fun k => decide (P 6 (t * 12 + k) = nI b)) k
  by_cases z : P 6 (t * 12 + k) = nI b
  · rw [decide_eq_true z, Bool.or_true, decide_eq_true_eq, e, if_pos (decide_eq_true z)]
    omega
  · rw [decide_eq_false z, Bool.or_false]
    rw [if_neg (by rw [decide_eq_true_eq]; exact z)] at e
    rw [e]
    rfl
theorem hkb_0 {t b : Nat} : hkb P t b 0 = false := rfl
theorem hkb_12 {t b : Nat} : hkb P t b 12 = hdb P t b := rfl
def LkI (P : PSt) (t k : Nat) (X : RSt) : Prop := ∀ b, b < 96 → ∀ i, i < 32 → qb (X b) i = ((decide (i < t) && hdb P i b) || (decide (i = t) && hkb P t b k))
theorem LkI_next {t : Nat} {X : RSt} (h : LkI P t 12 X) : LkI P (t + 1) 0 X := by
  intro b hb i hi
  rw [h b hb i hi, hkb_12, hkb_0, Bool.and_false, Bool.or_false]
  by_cases e : i = t
  · subst e
    simp
  · have e1 : decide (i < t + 1) = decide (i < t) := by
      by_cases q : i < t
      · rw [decide_eq_true q, decide_eq_true (by omega)]
      · rw [decide_eq_false q, decide_eq_false (by omega)]
    rw [e1, decide_eq_false e]
    simp
theorem c_look31 (hW : WInv P) {t : Nat} (ht : t < 20) (kf : Int32 → RSt → Option RSt) (X : RSt) (hX : LkI P t 0 X) : ∃ X', xX2_look_31 P kf 600 (nI t) 0 X = kf (nI (t + 1)) X' ∧ LkI P (t + 1) 0 X' := by
  have hl := loopI (fun m k (X : RSt) => xX2_look_31 P kf m (nI t) (nI k) X) (fun k X => LkI P t k X) 12 (fun m k X hk hI => by
    show ∃ X', xX2_look_31 P kf (m + 1) (nI t) (nI k) X = xX2_look_31 P kf m (nI t) (nI (k + 1)) X' ∧ _
    simp only [xX2_look_31, c_blockIn, bi_nI ht hk]
    rcases hW.2.2.2.2.2.2.2.1 t k ht hk with z | ⟨b0, hb0, z, -⟩
    · rw [z]
      refine ⟨X, ?_, fun b hb i hi => ?_⟩
      · simp (disch := omega) only [L0, L1, L2, L3, L4, L5, L8, L9, L10, L11, L12, L19, L20, L22, L40, L42, L60, L62, L82, L95, L96, L100, L102, L122, L240, L256, L362, L458, L554, L1000000000, L100000, Lm1, nI_addE, nI_mulE, nI_inj, nI_ltE, nI_leE, nI_clE, nI_m1, m1_nI, m1_lt, m1_le, nI_lt_m1, nI_le_m1, ix_nI, dT_le, dF_le, dT_lt, dF_lt, dT_eq, dF_eq, iT, iF, grd_t, lt1_s, bn1_s, bn2_s, bn3_s, bn4_s, bn5_s, nI_add0]
      · rw [hI b hb i hi, hkb_s, z, show decide (m1 = nI b) = false by rw [decide_eq_false_iff_not]; exact Ne.symm (nI_ne_m1 (by omega)), Bool.or_false]
    · have z' : P 6 (t * 12 + k) = nI b0 := z
      rw [z']
      refine ⟨upd X b0 (X b0 ||| ((1 : Int32) <<< (nI t &&& 31))), ?_, fun b hb i hi => ?_⟩
      · have c0 : ¬ (nI b0 < 0) := nI_pos (by omega)
        have c1 : ¬ ((96 : Int32) ≤ nI b0) := by rw [L96, nI_leE (by omega) (by omega)]; omega
        rw [if_neg (by rw [L12, nI_leE (by omega) (by omega)]; omega), bn1_s, if_neg c0, if_neg c1, ix_nI (by omega) (by omega), grd_t, grd_t, lt1_s, nI_clE (by omega), show nI k + 1 = nI (k + 1) from nI_succE k]
      · rw [hkb_s, z']
        by_cases e : b = b0
        · subst e
          rw [upd_eq, qb_or, hI b hb i hi, qb_one t ht i hi, decide_eq_true rfl, Bool.or_true, Bool.and_true]
          cases decide (i = t) <;> simp
        · rw [upd_ne e, hI b hb i hi, show decide (nI b0 = nI b) = false by rw [decide_eq_false_iff_not]; exact fun y => e (nI_lt_inj (by omega) (by omega) y).symm, Bool.or_false]) 12 600 0 X (by omega) (by omega) hX
  obtain ⟨m, X', e, h⟩ := hl
  refine ⟨X', e.trans ?_, LkI_next h⟩
  show xX2_look_31 P kf (m + 1) (nI t) (nI 12) X' = _
  rw [xX2_look_31, if_pos (by rw [L12, nI_leE (by omega) (by omega)]; omega), show nI t + 1 = nI (t + 1) from nI_succE t]
theorem c_look (hW : WInv P) (X : RSt) : ∃ X', xX2_look P X = some X' ∧ ∀ b, b < 96 → ∀ i, i < 32 → qb (X' b) i = (decide (i < 20) && hdb P i b) := by
  have h1 := loopI (fun m i (X : RSt) => xX2_look_2 P m (nI i) X) (fun i X => ∀ b, b < i → X b = 0) 96 (fun m i X hi hI => by
    refine ⟨upd X i 0, ?_, fun b hb => ?_⟩
    · show xX2_look_2 P (m + 1) (nI i) X = _
      rw [xX2_look_2, if_neg (by rw [L96, nI_leE (by omega) (by omega)]; omega), ix_nI (by omega) (by omega), grd_t, lt1_s, nI_clE (by omega), show nI i + 1 = nI (i + 1) from nI_succE i]
    · by_cases h : b = i
      · rw [h, upd_eq]
      · rw [upd_ne h]; exact hI b (by omega)) 96 600 0 X (by omega) (by omega) (fun b hb => by omega)
  obtain ⟨m, X1, e1, h2⟩ := h1
  have e2 : xX2_look_2 P (m + 1) (nI 96) X1 = xX2_look_23 P 600 0 X1 := by
    rw [xX2_look_2, if_pos (by rw [L96, nI_leE (by omega) (by omega)]; omega)]
  have h3 := loopI (fun m t (X : RSt) => xX2_look_23 P m (nI t) X) (fun t X => LkI P t 0 X) 20 (fun m t X ht hI => by
    obtain ⟨X', e, h⟩ := c_look31 hW ht (xX2_look_23 P m) X hI
    refine ⟨X', ?_, h⟩
    refine Eq.trans ?_ e
    show xX2_look_23 P (m + 1) (nI t) X = _
    rw [xX2_look_23, if_neg (by rw [L20, nI_leE (by omega) (by omega)]; omega)]) 20 600 0 X1 (by omega) (by omega) (fun b hb i hi => by
      rw [h2 b hb, qb_0, hkb_0, Bool.and_false, Bool.or_false, decide_eq_false (by omega), Bool.false_and])
  obtain ⟨m2, X2, e3, h4⟩ := h3
  refine ⟨X2, ?_, fun b hb i hi => ?_⟩
  · unfold xX2_look
    refine (e1.trans (e2.trans e3)).trans ?_
    show xX2_look_23 P (m2 + 1) (nI 20) X2 = some X2
    rw [xX2_look_23, if_pos (by rw [L20, nI_leE (by omega) (by omega)]; omega)]
  · rw [h4 b hb i hi, hkb_0, Bool.and_false, Bool.or_false]
theorem c_setOf {X : RSt} {b : Nat} (hb : b < 96) : xX2_setOf X (nI b) = some (X b) := by
  unfold xX2_setOf
  simp (disch := omega) only [L0, L1, L2, L3, L4, L5, L8, L9, L10, L11, L12, L19, L20, L22, L40, L42, L60, L62, L82, L95, L96, L100, L102, L122, L240, L256, L362, L458, L554, L1000000000, L100000, Lm1, nI_addE, nI_mulE, nI_inj, nI_ltE, nI_leE, nI_clE, nI_m1, m1_nI, m1_lt, m1_le, nI_lt_m1, nI_le_m1, ix_nI, dT_le, dF_le, dT_lt, dF_lt, dT_eq, dF_eq, iT, iF, grd_t, lt1_s, bn1_s, bn2_s, bn3_s, bn4_s, bn5_s, nI_add0]
/-- each thing holds a block once at most: holders are counted by things -/
theorem hc_cnt (hW : WInv P) {b : Nat} (hb : b < 96) : ∀ T, T ≤ 20 → cnt (fun j => decide (P 6 j = nI b)) (T * 12) = cnt (fun t => hdb P t b) T
  | 0, _ => rfl
  | T + 1, hT => by
    rw [show (T + 1) * 12 = T * 12 + 12 by omega, cnt_sum, hc_cnt hW hb T (by omega), cnt_s]
    refine congrArg (cnt (fun t => hdb P t b) T + ·) ?_
    by_cases z : hdb P T b = true
    · rw [if_pos z]
      obtain ⟨k, hk, e⟩ := hdb_iff.mp z
      refine cnt_one hk (decide_eq_true e) (fun j hj hne => ?_)
      rw [decide_eq_false_iff_not]
      intro y
      exact hne (hW.2.2.2.2.2.2.2.2.2.1 T T j k b (by omega) (by omega) hj hk hb y e)
    · rw [if_neg z]
      unfold hdb at z
      rw [decide_eq_true_eq] at z
      exact Nat.le_zero.mp (Nat.not_lt.mp z)
theorem hc_things (hW : WInv P) {b : Nat} (hb : b < 96) : hc P b = cnt (fun t => hdb P t b) 20 := hc_cnt hW hb 20 (by omega)
theorem q_block (h : Good P s n) (X hd : RSt) (x y : Int32) : ∃ r X' hd', xX7_block P X x y = some (r, X') ∧ xX8_block s hd x y = some (r, hd') := by
  obtain ⟨hI, hS, -⟩ := h
  have hW := hI.w
  have id2 : ∀ (q : Option (Int32 × RSt)), bn2 q (fun v1 X2 => some (v1, X2)) = q := by
    intro q
    cases q with
    | none => rfl
    | some w => rfl
  unfold xX7_block xX6_tellBlock xX8_block
  rw [id2, c_in, m_in, bn1_s, ite10]
  by_cases hy : 0 ≤ y ∧ y ≤ 2
  · rw [if_pos hy, if_pos hy, show (96 : Int32) = nI (95 + 1) from L96, c_in2 (by decide), m_in, bn1_s, ite10, show (95 : Int32) = nI 95 from L95]
    by_cases hx : 0 ≤ x ∧ x ≤ nI 95
    · rw [if_pos hx, if_pos hx]
      obtain ⟨b, hb, rfl⟩ := in_ex (by decide) hx
      have e7 := hS.2.2.2.2.1 b (by omega)
      have a362 : (362 : Int32) + nI b = nI (362 + b) := nI_addE 362 b
      have a458 : (458 : Int32) + nI b = nI (458 + b) := nI_addE 458 b
      rw [c_sizeOf, bn1_s, rd_nI (by decide) (by omega), a362, ix_nI (by omega) (by omega), grd_t, nI_clE (by omega), e7]
      by_cases z : P 7 b = 0
      · rw [if_pos z, if_pos z]
        exact ⟨_, _, _, rfl, rfl⟩
      rw [if_neg z, if_neg z]
      obtain ⟨hd', e1, h1⟩ := m_counts hS hW hd
      rw [e1, bn1_s, bn1_s]
      by_cases y0 : y = 0
      · rw [if_pos y0, if_pos y0, grd_t]
        exact ⟨_, _, _, rfl, rfl⟩
      rw [if_neg y0, if_neg y0]
      by_cases y1 : y = 1
      · rw [if_pos y1, if_pos y1, c_birthOf, bn1_s, rd_nI (by decide) (by omega), a458, ix_nI (by omega) (by omega), grd_t, nI_clE (by omega), hS.2.2.2.2.2 b (by omega) z]
        exact ⟨_, _, _, rfl, rfl⟩
      rw [if_neg y1, if_neg y1]
      obtain ⟨X', e2, h2⟩ := c_look hW X
      rw [e2, bn1_s, c_setOf (by omega), bn1_s, ix_nI (by omega) (by omega), grd_t, nI_clE (by omega), h1 b (by omega), hc_things hW (by omega)]
      rw [bits_spec (X' b) (fun i hi => by
        rcases Nat.lt_or_ge i 32 with q | q
        · rw [h2 b (by omega) i q, decide_eq_false (by omega), Bool.false_and]
        · exact qb_big q), bn1_s]
      refine ⟨_, X', hd', rfl, ?_⟩
      rw [cnt_cong (p := qb (X' b)) (q := fun t => hdb P t b) (fun i hi => by rw [h2 b (by omega) i (by omega), decide_eq_true hi, Bool.true_and])]
    · rw [if_neg hx, if_neg hx]
      exact ⟨_, _, _, rfl, rfl⟩
  · rw [if_neg hy, if_neg hy]
    exact ⟨_, _, _, rfl, rfl⟩
end
