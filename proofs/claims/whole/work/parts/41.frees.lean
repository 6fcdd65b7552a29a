/-! ===== the reference counts holders, and frees what none holds ===== -/
def hc (P : PSt) (b : Nat) : Nat := cnt (fun j => decide (P 6 j = nI b)) 240
theorem hc_held {P : PSt} {b : Nat} : hc P b = 0 ↔ ¬ held P b := by
  unfold hc held hl
  rw [cnt_zero]
  constructor
  · rintro h ⟨t, k, ht, hk, e⟩
    have := h (t * 12 + k) (by omega)
    rw [decide_eq_false_iff_not] at this
    exact this e
  · intro h j hj
    rw [decide_eq_false_iff_not]
    intro e
    exact h ⟨j / 12, j % 12, by omega, by omega, by rw [show j / 12 * 12 + j % 12 = j by omega]; exact e⟩
section
variable {P : PSt} {s : RSt}
theorem sim_slot (hS : Sim P s) {t k : Nat} (ht : t < 20) (hk : k < 12) (h : hs P t) : s (122 + 12 * t + k) = P 6 (t * 12 + k) := hS.2.2.2.1 t k ht hk h
theorem cnt_blank {p : Nat → Bool} {a : Nat} : ∀ {d : Nat}, (∀ i, i < d → p (a + i) = false) → cnt p (a + d) = cnt p a
  | 0, _ => rfl
  | d + 1, h => by
    rw [← Nat.add_assoc, cnt_s, cnt_blank (fun i hi => h i (by omega)), h d (by omega)]
    rfl
theorem m_counts31 (hS : Sim P s) (hW : WInv P) {t : Nat} (ht : t < 20) (kf : Int32 → RSt → Option RSt) (hd : RSt) (hh : ∀ b, b < 96 → hd b = nI (cnt (fun j => decide (P 6 j = nI b)) (t * 12))) : ∃ hd', xX8_counts_31 s kf 600 (nI t) 0 hd = kf (nI (t + 1)) hd' ∧ ∀ b, b < 96 → hd' b = nI (cnt (fun j => decide (P 6 j = nI b)) ((t + 1) * 12)) := by
  obtain ⟨w1, w2, w3, w4, w5, w6, w7, w8, w9, w10, w11, w12, w13, w14⟩ := hW
  by_cases h : hs P t
  · have hk1 := hsk_hs.mpr h
    have hl := loopI (fun m k (hd : RSt) => xX8_counts_31 s kf m (nI t) (nI k) hd) (fun k hd => ∀ b, b < 96 → hd b = nI (cnt (fun j => decide (P 6 j = nI b)) (t * 12 + k))) 12 (fun m k hd hk hI => by
      show ∃ s', xX8_counts_31 s kf (m + 1) (nI t) (nI k) hd = xX8_counts_31 s kf m (nI t) (nI (k + 1)) s' ∧ _
      have e1 : s (122 + 12 * t + k) = P 6 (t * 12 + k) := sim_slot hS ht hk h
      simp only [xX8_counts_31, m_hasT hS ht, hk1]
      rcases w8 t k ht hk with z | ⟨b, hb, z, -⟩
      · rw [z] at e1
        simp (disch := omega) only [L0, L1, L2, L3, L4, L5, L8, L9, L10, L11, L12, L19, L20, L22, L40, L42, L60, L62, L82, L95, L96, L100, L102, L122, L240, L256, L362, L458, L554, L1000000000, L100000, Lm1, nI_addE, nI_mulE, nI_inj, nI_ltE, nI_leE, nI_clE, nI_m1, m1_nI, m1_lt, m1_le, nI_lt_m1, nI_le_m1, ix_nI, dT_le, dF_le, dT_lt, dF_lt, dT_eq, dF_eq, iT, iF, grd_t, lt1_s, bn1_s, bn2_s, bn3_s, bn4_s, bn5_s, nI_add0, e1, if_true]
        refine ⟨hd, rfl, fun b hb => ?_⟩
        rw [← Nat.add_assoc, cnt_s, z, hI b hb]
        rw [show decide (m1 = nI b) = false by rw [decide_eq_false_iff_not]; exact Ne.symm (nI_ne_m1 (by omega))]
        rfl
      · have z' : P 6 (t * 12 + k) = nI b := z
        rw [z'] at e1
        simp (disch := omega) only [L0, L1, L2, L3, L4, L5, L8, L9, L10, L11, L12, L19, L20, L22, L40, L42, L60, L62, L82, L95, L96, L100, L102, L122, L240, L256, L362, L458, L554, L1000000000, L100000, Lm1, nI_addE, nI_mulE, nI_inj, nI_ltE, nI_leE, nI_clE, nI_m1, m1_nI, m1_lt, m1_le, nI_lt_m1, nI_le_m1, ix_nI, dT_le, dF_le, dT_lt, dF_lt, dT_eq, dF_eq, iT, iF, grd_t, lt1_s, bn1_s, bn2_s, bn3_s, bn4_s, bn5_s, nI_add0, e1, if_true]
        refine ⟨upd hd b (hd b + nI 1), rfl, fun c hc => ?_⟩
        rw [← Nat.add_assoc, cnt_s, z']
        by_cases hcb : c = b
        · subst hcb
          rw [upd_eq, hI c hc]
          simp only [decide_true, if_true]
          exact nI_addE _ 1
        · rw [upd_ne hcb, hI c hc, show decide (nI b = nI c) = false by rw [decide_eq_false_iff_not]; exact fun y => hcb (nI_lt_inj (by omega) (by omega) y).symm]
          rfl) 12 600 0 hd (by omega) (by omega) (by simpa using hh)
    obtain ⟨m, hd', e, h2⟩ := hl
    refine ⟨hd', ?_, fun b hb => by rw [h2 b hb, show t * 12 + 12 = (t + 1) * 12 by omega]⟩
    refine e.trans ?_
    show xX8_counts_31 s kf (m + 1) (nI t) (nI 12) hd' = _
    simp only [xX8_counts_31]
    simp (disch := omega) only [L0, L1, L2, L3, L4, L5, L8, L9, L10, L11, L12, L19, L20, L22, L40, L42, L60, L62, L82, L95, L96, L100, L102, L122, L240, L256, L362, L458, L554, L1000000000, L100000, Lm1, nI_addE, nI_mulE, nI_inj, nI_ltE, nI_leE, nI_clE, nI_m1, m1_nI, m1_lt, m1_le, nI_lt_m1, nI_le_m1, ix_nI, dT_le, dF_le, dT_lt, dF_lt, dT_eq, dF_eq, iT, iF, grd_t, lt1_s, bn1_s, bn2_s, bn3_s, bn4_s, bn5_s, nI_add0]
  · have hk1 : hsk (P 0 t) = false := by
      cases z : hsk (P 0 t) with
      | false => rfl
      | true => exact absurd (hsk_hs.mp z) h
    refine ⟨hd, ?_, fun b hb => ?_⟩
    · show xX8_counts_31 s kf (599 + 1) (nI t) (nI 0) hd = _
      rw [xX8_counts_31, m_hasT hS ht, hk1]
      simp (disch := omega) only [L0, L1, L2, L3, L4, L5, L8, L9, L10, L11, L12, L19, L20, L22, L40, L42, L60, L62, L82, L95, L96, L100, L102, L122, L240, L256, L362, L458, L554, L1000000000, L100000, Lm1, nI_addE, nI_mulE, nI_inj, nI_ltE, nI_leE, nI_clE, nI_m1, m1_nI, m1_lt, m1_le, nI_lt_m1, nI_le_m1, ix_nI, dT_le, dF_le, dT_lt, dF_lt, dT_eq, dF_eq, iT, iF, grd_t, lt1_s, bn1_s, bn2_s, bn3_s, bn4_s, bn5_s, nI_add0, Bool.false_eq_true, if_false]
    · rw [hh b hb, show (t + 1) * 12 = t * 12 + 12 by omega, cnt_blank]
      intro i hi
      rw [(w3 t ht h).2.2 i hi, decide_eq_false_iff_not]
      exact Ne.symm (nI_ne_m1 (by omega))
theorem m_counts (hS : Sim P s) (hW : WInv P) (hd : RSt) : ∃ hd', xX8_counts s hd = some hd' ∧ ∀ b, b < 96 → hd' b = nI (hc P b) := by
  have h1 := loopI (fun m i (hd : RSt) => xX8_counts_2 s m (nI i) hd) (fun i hd => ∀ b, b < i → hd b = 0) 96 (fun m i hd hi hI => by
    refine ⟨upd hd i 0, ?_, fun b hb => ?_⟩
    · simp only [xX8_counts_2]
      simp (disch := omega) only [L0, L1, L2, L3, L4, L5, L8, L9, L10, L11, L12, L19, L20, L22, L40, L42, L60, L62, L82, L95, L96, L100, L102, L122, L240, L256, L362, L458, L554, L1000000000, L100000, Lm1, nI_addE, nI_mulE, nI_inj, nI_ltE, nI_leE, nI_clE, nI_m1, m1_nI, m1_lt, m1_le, nI_lt_m1, nI_le_m1, ix_nI, dT_le, dF_le, dT_lt, dF_lt, dT_eq, dF_eq, iT, iF, grd_t, lt1_s, bn1_s, bn2_s, bn3_s, bn4_s, bn5_s, nI_add0]
    · by_cases h : b = i
      · rw [h, upd_eq]
      · rw [upd_ne h]; exact hI b (by omega)) 96 600 0 hd (by omega) (by omega) (fun b hb => by omega)
  obtain ⟨m, hd1, e1, h2⟩ := h1
  have e2 : xX8_counts_2 s (m + 1) (nI 96) hd1 = xX8_counts_23 s 600 0 hd1 := by
    simp only [xX8_counts_2]
    simp (disch := omega) only [L0, L1, L2, L3, L4, L5, L8, L9, L10, L11, L12, L19, L20, L22, L40, L42, L60, L62, L82, L95, L96, L100, L102, L122, L240, L256, L362, L458, L554, L1000000000, L100000, Lm1, nI_addE, nI_mulE, nI_inj, nI_ltE, nI_leE, nI_clE, nI_m1, m1_nI, m1_lt, m1_le, nI_lt_m1, nI_le_m1, ix_nI, dT_le, dF_le, dT_lt, dF_lt, dT_eq, dF_eq, iT, iF, grd_t, lt1_s, bn1_s, bn2_s, bn3_s, bn4_s, bn5_s, nI_add0]
  have h3 := loopI (fun m t (hd : RSt) => xX8_counts_23 s m (nI t) hd) (fun t hd => ∀ b, b < 96 → hd b = nI (cnt (fun j => decide (P 6 j = nI b)) (t * 12))) 20 (fun m t hd ht hI => by
    obtain ⟨hd', e, h⟩ := m_counts31 hS hW ht (xX8_counts_23 s m) hd hI
    refine ⟨hd', ?_, h⟩
    refine Eq.trans ?_ e
    show xX8_counts_23 s (m + 1) (nI t) hd = _
    rw [xX8_counts_23, if_neg (by rw [L20, nI_leE (by omega) (by omega)]; omega)]) 20 600 0 hd1 (by omega) (by omega) (fun b hb => by rw [h2 b hb]; rfl)
  obtain ⟨m2, hd2, e3, h4⟩ := h3
  refine ⟨hd2, ?_, h4⟩
  unfold xX8_counts
  refine (e1.trans (e2.trans e3)).trans ?_
  show xX8_counts_23 s (m2 + 1) (nI 20) hd2 = some hd2
  simp only [xX8_counts_23]
  simp (disch := omega) only [L0, L1, L2, L3, L4, L5, L8, L9, L10, L11, L12, L19, L20, L22, L40, L42, L60, L62, L82, L95, L96, L100, L102, L122, L240, L256, L362, L458, L554, L1000000000, L100000, Lm1, nI_addE, nI_mulE, nI_inj, nI_ltE, nI_leE, nI_clE, nI_m1, m1_nI, m1_lt, m1_le, nI_lt_m1, nI_le_m1, ix_nI, dT_le, dF_le, dT_lt, dF_lt, dT_eq, dF_eq, iT, iF, grd_t, lt1_s, bn1_s, bn2_s, bn3_s, bn4_s, bn5_s, nI_add0]
theorem hc_lt {b : Nat} : hc P b < 1000 := by
  have := cnt_le (fun j => decide (P 6 j = nI b)) 240
  unfold hc
  omega
/-- what the reference's row is behind the freeing -/
theorem m_frees {P' : PSt} {n : Nat} (hS : Sim P s) (hW : WInv P) (hG : GC P P' n) (hd : RSt) : ∃ s' hd', xX8_frees s hd = some (nI n, s', hd') ∧ Sim P' s' := by
  obtain ⟨hd1, e1, h1⟩ := m_counts hS hW hd
  have hsz := hW.2.2.2.2.2.2.2.2.1
  have hl := loopI (fun m i (q : Int32 × RSt) => xX8_frees_8 m q.1 (nI i) q.2 hd1) (fun i q => ∃ p : Nat → Bool, q.1 = nI (cnt p 96) ∧ (∀ b, b < 96 → (p b = true ↔ b < i ∧ P 7 b ≠ 0 ∧ ¬ held P b)) ∧ (∀ b, b < 96 → q.2 (362 + b) = if p b then 0 else s (362 + b)) ∧ (∀ j, (j < 362 ∨ 458 ≤ j) → q.2 j = s j)) 96 (fun m i q hi hI => by
    obtain ⟨g, r⟩ := q
    obtain ⟨p, a1, a2, a3, a4⟩ := hI
    dsimp only at a1 a3 a4
    have hpi : p i = false := by
      cases z : p i with
      | false => rfl
      | true => have := ((a2 i hi).mp z).1; omega
    have r7 : r (362 + i) = P 7 i := by rw [a3 i hi, hpi]; exact hS.2.2.2.2.1 i hi
    have same : ¬ (P 7 i ≠ 0 ∧ ¬ held P i) → ∃ p : Nat → Bool, g = nI (cnt p 96) ∧ (∀ b, b < 96 → (p b = true ↔ b < i + 1 ∧ P 7 b ≠ 0 ∧ ¬ held P b)) ∧ (∀ b, b < 96 → r (362 + b) = if p b then 0 else s (362 + b)) ∧ (∀ j, (j < 362 ∨ 458 ≤ j) → r j = s j) := by
      intro hno
      refine ⟨p, a1, fun b hb => ?_, a3, a4⟩
      rw [a2 b hb]
      constructor
      · rintro ⟨z1, z2⟩; exact ⟨by omega, z2⟩
      · rintro ⟨z1, z2⟩
        refine ⟨?_, z2⟩
        rcases Nat.lt_or_ge b i with y | y
        · exact y
        · have : b = i := by omega
          subst this
          exact absurd z2 hno
    show ∃ q' : Int32 × RSt, xX8_frees_8 (m + 1) g (nI i) r hd1 = xX8_frees_8 m q'.1 (nI (i + 1)) q'.2 hd1 ∧ _
    have op : xX8_frees_8 (m + 1) g (nI i) r hd1 = if P 7 i ≤ 0 then xX8_frees_8 m g (nI (i + 1)) r hd1 else if nI (hc P i) = 0 then xX8_frees_8 m (g + 1) (nI (i + 1)) (upd r (362 + i) 0) hd1 else xX8_frees_8 m g (nI (i + 1)) r hd1 := by
      simp only [xX8_frees_8]
      simp (disch := omega) only [L0, L1, L2, L3, L4, L5, L8, L9, L10, L11, L12, L19, L20, L22, L40, L42, L60, L62, L82, L95, L96, L100, L102, L122, L240, L256, L362, L458, L554, L1000000000, L100000, Lm1, nI_addE, nI_mulE, nI_inj, nI_ltE, nI_leE, nI_clE, nI_m1, m1_nI, m1_lt, m1_le, nI_lt_m1, nI_le_m1, ix_nI, dT_le, dF_le, dT_lt, dF_lt, dT_eq, dF_eq, iT, iF, grd_t, lt1_s, bn1_s, bn2_s, bn3_s, bn4_s, bn5_s, nI_add0, r7, h1 i hi]
    rw [op]
    have hz : P 7 i ≤ 0 ↔ P 7 i = 0 := by
      have := (hsz i hi).1
      unfold sz1 at this
      rw [Int32.le_iff_toInt_le, show (0 : Int32).toInt = 0 by decide]
      constructor
      · intro h
        exact Int32.toInt_inj.mp (by rw [show (0 : Int32).toInt = 0 by decide]; omega)
      · intro h
        rw [h]; decide
    by_cases c1 : P 7 i = 0
    · rw [if_pos (hz.mpr c1)]
      exact ⟨(g, r), rfl, same (fun z => z.1 c1)⟩
    · rw [if_neg (fun z => c1 (hz.mp z))]
      by_cases c2 : hc P i = 0
      · rw [if_pos (by rw [c2]; rfl)]
        refine ⟨(g + 1, upd r (362 + i) 0), rfl, fun b => p b || decide (b = i), ?_, fun b hb => ?_, fun b hb => ?_, fun j hj => ?_⟩
        · show g + 1 = _
          rw [a1, cnt_add1 (p := fun b => p b || decide (b = i)) (q := p) hi (fun c hc hne => by simp [hne]) (by simp) hpi]
          exact nI_1 _
        · rw [Bool.or_eq_true, a2 b hb, decide_eq_true_eq]
          constructor
          · rintro (⟨z1, z2⟩ | z)
            · exact ⟨by omega, z2⟩
            · subst z; exact ⟨by omega, c1, hc_held.mp c2⟩
          · rintro ⟨z1, z2⟩
            rcases Nat.lt_or_ge b i with y | y
            · exact Or.inl ⟨y, z2⟩
            · exact Or.inr (by omega)
        · show upd r (362 + i) 0 (362 + b) = _
          by_cases hb2 : b = i
          · subst hb2; rw [upd_eq]; simp
          · rw [upd_ne (by omega), a3 b hb]; simp [hb2]
        · show upd r (362 + i) 0 j = _
          rw [upd_ne (by omega)]; exact a4 j hj
      · rw [if_neg (by
          intro z
          rw [L0, nI_inj (by have := hc_lt (P := P) (b := i); omega) (by omega)] at z
          exact c2 z)]
        exact ⟨(g, r), rfl, same (fun z => c2 (hc_held.mpr z.2))⟩) 96 600 0 (0, s) (by omega) (by omega) ⟨fun _ => false, (by rw [cnt_zero.mpr (fun _ _ => rfl)]; rfl), fun b hb => ⟨fun z => (by cases z), fun z => (by omega)⟩, fun b hb => rfl, fun j hj => rfl⟩
  obtain ⟨m, ⟨g, r⟩, e2, p, a1, a2, a3, a4⟩ := hl
  dsimp only at a1 a3 a4 e2
  obtain ⟨b1, b2, b3, b4, b5, p5, b6, b7⟩ := hG
  have hn : cnt p 96 = n := by
    rw [← b7]
    refine cnt_cong (fun b hb => ?_)
    have x := a2 b hb
    have y := b6 b hb
    cases z1 : p b <;> cases z2 : p5 b
    · rfl
    · rw [z1] at x; rw [z2] at y
      have := y.mp rfl
      exact absurd (x.mpr ⟨hb, this⟩) (by simp)
    · rw [z1] at x; rw [z2] at y
      exact absurd (y.mpr (x.mp rfl).2) (by simp)
    · rfl
  have e3 : xX8_frees_8 (m + 1) g (nI 96) r hd1 = some (g, upd r 1 (r 1 + g), hd1) := by
    simp only [xX8_frees_8]
    simp (disch := omega) only [L0, L1, L2, L3, L4, L5, L8, L9, L10, L11, L12, L19, L20, L22, L40, L42, L60, L62, L82, L95, L96, L100, L102, L122, L240, L256, L362, L458, L554, L1000000000, L100000, Lm1, nI_addE, nI_mulE, nI_inj, nI_ltE, nI_leE, nI_clE, nI_m1, m1_nI, m1_lt, m1_le, nI_lt_m1, nI_le_m1, ix_nI, dT_le, dF_le, dT_lt, dF_lt, dT_eq, dF_eq, iT, iF, grd_t, lt1_s, bn1_s, bn2_s, bn3_s, bn4_s, bn5_s, nI_add0]
  refine ⟨upd r 1 (r 1 + g), hd1, ?_, ?_⟩
  · unfold xX8_frees
    rw [e1, bn1_s]
    refine (e2.trans e3).trans ?_
    rw [a1, hn]
  · have u : ∀ j, j ≠ 1 → (j < 362 ∨ 458 ≤ j) → upd r 1 (r 1 + g) j = s j := fun j h1 h2 => by rw [upd_ne h1]; exact a4 j h2
    have e : ∀ a, a ≤ 6 → P' a = P a := fun a h => funext (fun i => b1 a i h)
    have e0 := e 0 (by omega)
    have eh : ∀ t, hs P' t ↔ hs P t := fun t => by unfold hs isF isS; rw [e0]
    have pS : ∀ b, b < 96 → P' 7 b = if p b then 0 else P 7 b := by
      intro b hb
      by_cases hp : p b = true
      · rw [if_pos hp, b4 b hb ((a2 b hb).mp hp).2.2]
      · rw [if_neg hp]
        by_cases hh : held P b
        · exact (b3 b hb hh).1
        · rw [b4 b hb hh]
          rcases Classical.em (P 7 b = 0) with z | z
          · exact z.symm
          · exact absurd ((a2 b hb).mpr ⟨hb, z, hh⟩) hp
    refine ⟨⟨?_, ?_⟩, fun t ht => ?_, fun t ht h => ?_, fun t k ht hk h => ?_, fun b hb => ?_, fun b hb h => ?_⟩
    · rw [u 0 (by omega) (by omega), b2]; exact hS.1.1
    · rw [upd_eq, a4 1 (by omega), hS.1.2, b5, a1, hn]
    · rw [u _ (by omega) (by omega), e0]; exact hS.2.1 t ht
    · rw [e0] at h
      rw [u _ (by omega) (by omega), u _ (by omega) (by omega), u _ (by omega) (by omega), u _ (by omega) (by omega), u _ (by omega) (by omega), e 1 (by omega), e 2 (by omega), e 3 (by omega), e 4 (by omega), e 5 (by omega)]
      exact hS.2.2.1 t ht h
    · rw [u _ (by omega) (by omega), e 6 (by omega)]
      exact sim_slot hS ht hk ((eh t).mp h)
    · rw [upd_ne (by omega), a3 b hb, pS b hb, hS.2.2.2.2.1 b hb]
    · have hh : held P b := by
        rcases Classical.em (held P b) with z | z
        · exact z
        · exact absurd (b4 b hb z) h
      have h2 := b3 b hb hh
      rw [u _ (by omega) (by omega), h2.2]
      exact hS.2.2.2.2.2 b hb (by rw [← h2.1]; exact h)
end
