/-! ===== the reference's changes of structure ===== -/
section
variable {P P' : PSt} {s s' : RSt}
theorem sim_new {N : Nat} (hS : Sim P s) (hN : N < 20) (a9 : P' 9 0 = P 9 0) (a10 : P' 10 0 = P 10 0) (aR : ∀ a t, a ≤ 5 → t ≠ N → P' a t = P a t) (a6 : ∀ t k, t < 20 → k < 12 → t ≠ N → P' 6 (t * 12 + k) = P 6 (t * 12 + k)) (a7 : P' 7 = P 7) (a8 : P' 8 = P 8) (sO : ∀ j, ¬ (j = 2 + N ∨ j = 22 + N ∨ j = 42 + N ∨ j = 62 + N ∨ j = 82 + N ∨ j = 102 + N ∨ (122 + 12 * N ≤ j ∧ j < 134 + 12 * N)) → s' j = s j) (sK : s' (2 + N) = P' 0 N) (sN : P' 0 N ≠ m1 → s' (22 + N) = P' 1 N ∧ s' (42 + N) = P' 2 N ∧ s' (62 + N) = P' 3 N ∧ s' (82 + N) = P' 5 N ∧ s' (102 + N) = P' 4 N) (s6 : ∀ k, k < 12 → hs P' N → s' (122 + 12 * N + k) = P' 6 (N * 12 + k)) : Sim P' s' := by
  obtain ⟨h1, h2, h3, h4, h5, h6⟩ := hS
  refine ⟨⟨?_, ?_⟩, fun t ht => ?_, fun t ht h => ?_, fun t k ht hk h => ?_, fun b hb => ?_, fun b hb h => ?_⟩
  · rw [sO 0 (by omega), a9]; exact h1.1
  · rw [sO 1 (by omega), a10]; exact h1.2
  · rcases em_ne (t := t) (n := N) with w | w
    · subst w; exact sK
    · rw [sO _ (by omega), aR 0 t (by omega) w]; exact h2 t ht
  · rcases em_ne (t := t) (n := N) with w | w
    · subst w; exact sN h
    · rw [aR 0 t (by omega) w] at h
      rw [sO _ (by omega), sO _ (by omega), sO _ (by omega), sO _ (by omega), sO _ (by omega), aR 1 t (by omega) w, aR 2 t (by omega) w, aR 3 t (by omega) w, aR 4 t (by omega) w, aR 5 t (by omega) w]
      exact h3 t ht h
  · rcases em_ne (t := t) (n := N) with w | w
    · subst w; exact s6 k hk h
    · rw [sO _ (by omega), a6 t k ht hk w]
      refine h4 t k ht hk ?_
      unfold hs isF isS at *
      rw [← aR 0 t (by omega) w]; exact h
  · rw [sO _ (by omega), a7]; exact h5 b hb
  · rw [a7] at h
    rw [sO _ (by omega), a8]; exact h6 b hb h
theorem sim_prev (hS : Sim P s) {t : Nat} {v : Int32} (ht : t < 20) : Sim (st P 2 t v) (upd s (42 + t) v) := by
  obtain ⟨h1, h2, h3, h4, h5, h6⟩ := hS
  refine ⟨⟨?_, ?_⟩, fun u hu => ?_, fun u hu h => ?_, fun u k hu hk h => ?_, fun b hb => ?_, fun b hb h => ?_⟩
  · rw [upd_ne (by omega), st_ne1 (by decide)]; exact h1.1
  · rw [upd_ne (by omega), st_ne1 (by decide)]; exact h1.2
  · rw [upd_ne (by omega), st_ne1 (by decide)]; exact h2 u hu
  · rw [st_ne1 (by decide)] at h
    rw [upd_ne (by omega), upd_ne (j := 62 + u) (by omega), upd_ne (j := 82 + u) (by omega), upd_ne (j := 102 + u) (by omega), st_ne1 (by decide), st_ne1 (show (3 : Nat) ≠ 2 by decide), st_ne1 (show (4 : Nat) ≠ 2 by decide), st_ne1 (show (5 : Nat) ≠ 2 by decide)]
    have := h3 u hu h
    refine ⟨this.1, ?_, this.2.2⟩
    by_cases w : u = t
    · subst w; rw [upd_eq, st_eq]
    · rw [upd_ne (by omega), st_ne2 w]; exact this.2.1
  · rw [upd_ne (by omega), st_ne1 (by decide)]
    exact h4 u k hu hk (by unfold hs isF isS at *; rw [st_ne1 (by decide)] at h; exact h)
  · rw [upd_ne (by omega), st_ne1 (by decide)]; exact h5 b hb
  · rw [st_ne1 (by decide)] at h
    rw [upd_ne (by omega), st_ne1 (by decide)]; exact h6 b hb h
theorem sim_tags (hS : Sim P s) {t : Nat} {v : Int32} (ht : t < 20) : Sim (st P 4 t v) (upd s (102 + t) v) := by
  obtain ⟨h1, h2, h3, h4, h5, h6⟩ := hS
  refine ⟨⟨?_, ?_⟩, fun u hu => ?_, fun u hu h => ?_, fun u k hu hk h => ?_, fun b hb => ?_, fun b hb h => ?_⟩
  · rw [upd_ne (by omega), st_ne1 (by decide)]; exact h1.1
  · rw [upd_ne (by omega), st_ne1 (by decide)]; exact h1.2
  · rw [upd_ne (by omega), st_ne1 (by decide)]; exact h2 u hu
  · rw [st_ne1 (by decide)] at h
    rw [upd_ne (by omega), upd_ne (j := 42 + u) (by omega), upd_ne (j := 62 + u) (by omega), upd_ne (j := 82 + u) (by omega), st_ne1 (by decide), st_ne1 (show (2 : Nat) ≠ 4 by decide), st_ne1 (show (3 : Nat) ≠ 4 by decide), st_ne1 (show (5 : Nat) ≠ 4 by decide)]
    have := h3 u hu h
    refine ⟨this.1, this.2.1, this.2.2.1, this.2.2.2.1, ?_⟩
    by_cases w : u = t
    · subst w; rw [upd_eq, st_eq]
    · rw [upd_ne (by omega), st_ne2 w]; exact this.2.2.2.2
  · rw [upd_ne (by omega), st_ne1 (by decide)]
    exact h4 u k hu hk (by unfold hs isF isS at *; rw [st_ne1 (by decide)] at h; exact h)
  · rw [upd_ne (by omega), st_ne1 (by decide)]; exact h5 b hb
  · rw [st_ne1 (by decide)] at h
    rw [upd_ne (by omega), st_ne1 (by decide)]; exact h6 b hb h
theorem sim_time (hS : Sim P s) {v : Int32} : Sim (st P 9 0 v) (upd s 0 v) := by
  obtain ⟨h1, h2, h3, h4, h5, h6⟩ := hS
  refine ⟨⟨?_, ?_⟩, fun u hu => ?_, fun u hu h => ?_, fun u k hu hk h => ?_, fun b hb => ?_, fun b hb h => ?_⟩
  · rw [upd_eq, st_eq]
  · rw [upd_ne (by omega), st_ne1 (by decide)]; exact h1.2
  · rw [upd_ne (by omega), st_ne1 (by decide)]; exact h2 u hu
  · rw [st_ne1 (by decide)] at h
    rw [upd_ne (by omega), upd_ne (by omega), upd_ne (by omega), upd_ne (by omega), upd_ne (by omega), st_ne1 (by decide), st_ne1 (by decide), st_ne1 (by decide), st_ne1 (by decide), st_ne1 (by decide)]
    exact h3 u hu h
  · rw [upd_ne (by omega), st_ne1 (by decide)]
    exact h4 u k hu hk (by unfold hs isF isS at *; rw [st_ne1 (by decide)] at h; exact h)
  · rw [upd_ne (by omega), st_ne1 (by decide)]; exact h5 b hb
  · rw [st_ne1 (by decide)] at h
    rw [upd_ne (by omega), st_ne1 (by decide)]; exact h6 b hb h
theorem sim_cell (hS : Sim P s) {f k : Nat} {v : Int32} (hf : f < 20) (hk : k < 12) : Sim (st P 6 (f * 12 + k) v) (upd s (122 + 12 * f + k) v) := by
  obtain ⟨h1, h2, h3, h4, h5, h6⟩ := hS
  refine ⟨⟨?_, ?_⟩, fun u hu => ?_, fun u hu h => ?_, fun u k2 hu hk2 h => ?_, fun b hb => ?_, fun b hb h => ?_⟩
  · rw [upd_ne (by omega), st_ne1 (by decide)]; exact h1.1
  · rw [upd_ne (by omega), st_ne1 (by decide)]; exact h1.2
  · rw [upd_ne (by omega), st_ne1 (by decide)]; exact h2 u hu
  · rw [st_ne1 (by decide)] at h
    rw [upd_ne (by omega), upd_ne (by omega), upd_ne (by omega), upd_ne (by omega), upd_ne (by omega), st_ne1 (by decide), st_ne1 (by decide), st_ne1 (by decide), st_ne1 (by decide), st_ne1 (by decide)]
    exact h3 u hu h
  · by_cases w : u = f ∧ k2 = k
    · rw [w.1, w.2, upd_eq, st_eq]
    · rw [upd_ne (by omega), st_ne2 (by omega)]
      exact h4 u k2 hu hk2 (by unfold hs isF isS at *; rw [st_ne1 (by decide)] at h; exact h)
  · rw [upd_ne (by omega), st_ne1 (by decide)]; exact h5 b hb
  · rw [st_ne1 (by decide)] at h
    rw [upd_ne (by omega), st_ne1 (by decide)]; exact h6 b hb h
/-- a block that nothing holds yet -/
theorem sim_block (hS : Sim P s) {N : Nat} {v tv : Int32} (hN : N < 96) : Sim (st (st P 7 N v) 8 N tv) (upd (upd s (362 + N) v) (458 + N) tv) := by
  obtain ⟨h1, h2, h3, h4, h5, h6⟩ := hS
  have r : ∀ a i, a ≠ 7 → a ≠ 8 → st (st P 7 N v) 8 N tv a i = P a i := fun a i x y => by rw [st_ne1 y, st_ne1 x]
  have u : ∀ j, j ≠ 362 + N → j ≠ 458 + N → upd (upd s (362 + N) v) (458 + N) tv j = s j := fun j x y => by rw [upd_ne y, upd_ne x]
  refine ⟨⟨?_, ?_⟩, fun t hu => ?_, fun t hu h => ?_, fun t k2 hu hk2 h => ?_, fun b hb => ?_, fun b hb h => ?_⟩
  · rw [u _ (by omega) (by omega), r _ _ (by decide) (by decide)]; exact h1.1
  · rw [u _ (by omega) (by omega), r _ _ (by decide) (by decide)]; exact h1.2
  · rw [u _ (by omega) (by omega), r _ _ (by decide) (by decide)]; exact h2 t hu
  · rw [r _ _ (by decide) (by decide)] at h
    rw [u _ (by omega) (by omega), u _ (by omega) (by omega), u _ (by omega) (by omega), u _ (by omega) (by omega), u _ (by omega) (by omega), r _ _ (by decide) (by decide), r _ _ (by decide) (by decide), r _ _ (by decide) (by decide), r _ _ (by decide) (by decide), r _ _ (by decide) (by decide)]
    exact h3 t hu h
  · rw [u _ (by omega) (by omega), r _ _ (by decide) (by decide)]
    exact h4 t k2 hu hk2 (by unfold hs isF isS at *; rw [r _ _ (by decide) (by decide)] at h; exact h)
  · rw [st_ne1 (by decide)]
    by_cases w : b = N
    · subst w; rw [upd_ne (by omega), upd_eq, st_eq]
    · rw [u _ (by omega) (by omega), st_ne2 w]; exact h5 b hb
  · by_cases w : b = N
    · subst w; rw [upd_eq, st_eq]
    · rw [u _ (by omega) (by omega), st_ne2 w, st_ne1 (by decide)]
      rw [st_ne1 (by decide), st_ne2 w] at h
      exact h6 b hb h
/-! the reference's small steps -/
theorem m_newThing (hS : Sim P s) {N : Nat} (hN : fst1 (fun j => decide (P 0 j = m1)) 20 = N) : xX8_newThing s = some (nI N) := by
  unfold xX8_newThing
  have hle : N ≤ 20 := hN ▸ fst1_le _ 20
  refine loop0 (fun n i (_ : Unit) => xX8_newThing_2 s n (nI i)) (fun _ => ()) _ N 600 (by omega) ?_ ?_
  · intro n i hi
    have h : ¬ P 0 i = m1 := by
      have := fst1_no (fun j => decide (P 0 j = m1)) 20 i (by omega)
      simpa using this
    have e := hS.2.1 i (by omega)
    simp only [xX8_newThing_2]
    simp (disch := omega) only [L0, L1, L2, L3, L4, L5, L8, L9, L10, L11, L12, L19, L20, L22, L40, L42, L60, L62, L82, L95, L96, L100, L102, L122, L240, L256, L362, L458, L554, L1000000000, L100000, Lm1, nI_addE, nI_mulE, nI_inj, nI_ltE, nI_leE, nI_clE, nI_m1, m1_nI, m1_lt, m1_le, nI_lt_m1, nI_le_m1, ix_nI, dT_le, dF_le, dT_lt, dF_lt, dT_eq, dF_eq, iT, iF, grd_t, lt1_s, bn1_s, bn2_s, bn3_s, bn4_s, bn5_s, nI_add0, e, eq_false h]
  · intro n
    simp only [xX8_newThing_2]
    by_cases h20 : N < 20
    · have h : P 0 N = m1 := by
        have := fst1_yes (fun j => decide (P 0 j = m1)) 20 (by omega)
        rw [hN] at this
        simpa using this
      have e := hS.2.1 N h20
      simp (disch := omega) only [L0, L1, L2, L3, L4, L5, L8, L9, L10, L11, L12, L19, L20, L22, L40, L42, L60, L62, L82, L95, L96, L100, L102, L122, L240, L256, L362, L458, L554, L1000000000, L100000, Lm1, nI_addE, nI_mulE, nI_inj, nI_ltE, nI_leE, nI_clE, nI_m1, m1_nI, m1_lt, m1_le, nI_lt_m1, nI_le_m1, ix_nI, dT_le, dF_le, dT_lt, dF_lt, dT_eq, dF_eq, iT, iF, grd_t, lt1_s, bn1_s, bn2_s, bn3_s, bn4_s, bn5_s, nI_add0, e, eq_true h]
    · have : N = 20 := by omega
      subst this
      simp (disch := omega) only [L0, L1, L2, L3, L4, L5, L8, L9, L10, L11, L12, L19, L20, L22, L40, L42, L60, L62, L82, L95, L96, L100, L102, L122, L240, L256, L362, L458, L554, L1000000000, L100000, Lm1, nI_addE, nI_mulE, nI_inj, nI_ltE, nI_leE, nI_clE, nI_m1, m1_nI, m1_lt, m1_le, nI_lt_m1, nI_le_m1, ix_nI, dT_le, dF_le, dT_lt, dF_lt, dT_eq, dF_eq, iT, iF, grd_t, lt1_s, bn1_s, bn2_s, bn3_s, bn4_s, bn5_s, nI_add0]
theorem m_newBlock (hS : Sim P s) (hz : W_size P) {N : Nat} (hN : fst1 (fun j => decide (P 7 j = 0)) 96 = N) : xX8_newBlock s = some (nI N) := by
  unfold xX8_newBlock
  have hle : N ≤ 96 := hN ▸ fst1_le _ 96
  have hz1 : ∀ i, i < 96 → (P 7 i ≤ 0 ↔ P 7 i = 0) := fun i hi => by
    have := (hz i hi).1
    unfold sz1 at this
    rw [Int32.le_iff_toInt_le, show (0 : Int32).toInt = 0 by decide]
    constructor
    · intro h
      exact Int32.toInt_inj.mp (by rw [show (0 : Int32).toInt = 0 by decide]; omega)
    · intro h
      rw [h]; decide
  refine loop0 (fun n i (_ : Unit) => xX8_newBlock_2 s n (nI i)) (fun _ => ()) _ N 600 (by omega) ?_ ?_
  · intro n i hi
    have h : ¬ P 7 i ≤ nI 0 := by
      have := fst1_no (fun j => decide (P 7 j = 0)) 96 i (by omega)
      rw [decide_eq_false_iff_not] at this
      exact fun z => this ((hz1 i (by omega)).mp z)
    have e := hS.2.2.2.2.1 i (by omega)
    simp only [xX8_newBlock_2]
    simp (disch := omega) only [L0, L1, L2, L3, L4, L5, L8, L9, L10, L11, L12, L19, L20, L22, L40, L42, L60, L62, L82, L95, L96, L100, L102, L122, L240, L256, L362, L458, L554, L1000000000, L100000, Lm1, nI_addE, nI_mulE, nI_inj, nI_ltE, nI_leE, nI_clE, nI_m1, m1_nI, m1_lt, m1_le, nI_lt_m1, nI_le_m1, ix_nI, dT_le, dF_le, dT_lt, dF_lt, dT_eq, dF_eq, iT, iF, grd_t, lt1_s, bn1_s, bn2_s, bn3_s, bn4_s, bn5_s, nI_add0, e, eq_false h]
  · intro n
    simp only [xX8_newBlock_2]
    by_cases h20 : N < 96
    · have h : P 7 N ≤ nI 0 := by
        have := fst1_yes (fun j => decide (P 7 j = 0)) 96 (by omega)
        rw [hN, decide_eq_true_eq] at this
        exact (hz1 N h20).mpr this
      have e := hS.2.2.2.2.1 N h20
      simp (disch := omega) only [L0, L1, L2, L3, L4, L5, L8, L9, L10, L11, L12, L19, L20, L22, L40, L42, L60, L62, L82, L95, L96, L100, L102, L122, L240, L256, L362, L458, L554, L1000000000, L100000, Lm1, nI_addE, nI_mulE, nI_inj, nI_ltE, nI_leE, nI_clE, nI_m1, m1_nI, m1_lt, m1_le, nI_lt_m1, nI_le_m1, ix_nI, dT_le, dF_le, dT_lt, dF_lt, dT_eq, dF_eq, iT, iF, grd_t, lt1_s, bn1_s, bn2_s, bn3_s, bn4_s, bn5_s, nI_add0, e, eq_true h]
    · have : N = 96 := by omega
      subst this
      simp (disch := omega) only [L0, L1, L2, L3, L4, L5, L8, L9, L10, L11, L12, L19, L20, L22, L40, L42, L60, L62, L82, L95, L96, L100, L102, L122, L240, L256, L362, L458, L554, L1000000000, L100000, Lm1, nI_addE, nI_mulE, nI_inj, nI_ltE, nI_leE, nI_clE, nI_m1, m1_nI, m1_lt, m1_le, nI_lt_m1, nI_le_m1, ix_nI, dT_le, dF_le, dT_lt, dF_lt, dT_eq, dF_eq, iT, iF, grd_t, lt1_s, bn1_s, bn2_s, bn3_s, bn4_s, bn5_s, nI_add0]
/-- a stretch of a row laid over with one number -/
def ovr (s : RSt) (a n : Nat) (v : Int32) : RSt := fun j => if a ≤ j ∧ j < a + n then v else s j
theorem ovr_0 {s : RSt} {a : Nat} {v : Int32} : ovr s a 0 v = s := by
  funext j
  unfold ovr
  rw [if_neg (by omega)]
theorem ovr_s {s : RSt} {a n : Nat} {v : Int32} : upd (ovr s a n v) (a + n) v = ovr s a (n + 1) v := by
  funext j
  unfold upd ovr
  by_cases h : j = a + n
  · rw [if_pos h, if_pos (by omega)]
  · rw [if_neg h]
    by_cases h2 : a ≤ j ∧ j < a + n
    · rw [if_pos h2, if_pos (by omega)]
    · rw [if_neg h2, if_neg (by omega)]
theorem m_comes67 {s : RSt} {t : Nat} (ht : t < 20) : xX8_comes_67 600 (nI t) (nI 0) s = some (nI t, ovr s (122 + 12 * t) 12 m1) := by
  have hh : xX8_comes_67 600 (nI t) (nI 0) (ovr s (122 + 12 * t) 0 m1) = some (nI t, ovr s (122 + 12 * t) 12 m1) := by
    refine loop0 (fun n i r => xX8_comes_67 n (nI t) (nI i) r) (fun i => ovr s (122 + 12 * t) i m1) _ 12 600 (by decide) ?_ ?_
    · intro n i hi
      rw [← ovr_s]
      generalize ovr s (122 + 12 * t) i m1 = R
      simp only [xX8_comes_67]
      simp (disch := omega) only [L0, L1, L2, L3, L4, L5, L8, L9, L10, L11, L12, L19, L20, L22, L40, L42, L60, L62, L82, L95, L96, L100, L102, L122, L240, L256, L362, L458, L554, L1000000000, L100000, Lm1, nI_addE, nI_mulE, nI_inj, nI_ltE, nI_leE, nI_clE, nI_m1, m1_nI, m1_lt, m1_le, nI_lt_m1, nI_le_m1, ix_nI, dT_le, dF_le, dT_lt, dF_lt, dT_eq, dF_eq, iT, iF, grd_t, lt1_s, bn1_s, bn2_s, bn3_s, bn4_s, bn5_s, nI_add0]
    · intro n
      generalize ovr s (122 + 12 * t) 12 m1 = R
      simp only [xX8_comes_67]
      simp (disch := omega) only [L0, L1, L2, L3, L4, L5, L8, L9, L10, L11, L12, L19, L20, L22, L40, L42, L60, L62, L82, L95, L96, L100, L102, L122, L240, L256, L362, L458, L554, L1000000000, L100000, Lm1, nI_addE, nI_mulE, nI_inj, nI_ltE, nI_leE, nI_clE, nI_m1, m1_nI, m1_lt, m1_le, nI_lt_m1, nI_le_m1, ix_nI, dT_le, dF_le, dT_lt, dF_lt, dT_eq, dF_eq, iT, iF, grd_t, lt1_s, bn1_s, bn2_s, bn3_s, bn4_s, bn5_s, nI_add0]
  rw [ovr_0] at hh
  exact hh
def cms (s : RSt) (N : Nat) (kk md0 : Int32) : RSt := ovr (upd (upd (upd (upd (upd (upd s (2 + N) kk) (22 + N) md0) (42 + N) m1) (62 + N) m1) (82 + N) m1) (102 + N) 0) (122 + 12 * N) 12 m1
theorem m_comes (hS : Sim P s) {N : Nat} (hN : fst1 (fun j => decide (P 0 j = m1)) 20 = N) (h20 : N < 20) (kk md0 : Int32) : xX8_comes s kk md0 = some (nI N, cms s N kk md0) := by
  unfold xX8_comes cms
  rw [m_newThing hS hN]
  simp (disch := omega) only [L0, L1, L2, L3, L4, L5, L8, L9, L10, L11, L12, L19, L20, L22, L40, L42, L60, L62, L82, L95, L96, L100, L102, L122, L240, L256, L362, L458, L554, L1000000000, L100000, Lm1, nI_addE, nI_mulE, nI_inj, nI_ltE, nI_leE, nI_clE, nI_m1, m1_nI, m1_lt, m1_le, nI_lt_m1, nI_le_m1, ix_nI, dT_le, dF_le, dT_lt, dF_lt, dT_eq, dF_eq, iT, iF, grd_t, lt1_s, bn1_s, bn2_s, bn3_s, bn4_s, bn5_s, nI_add0]
  rw [m_comes67 h20]
theorem cms_o {N j : Nat} {kk md0 : Int32} (h : ¬ (j = 2 + N ∨ j = 22 + N ∨ j = 42 + N ∨ j = 62 + N ∨ j = 82 + N ∨ j = 102 + N ∨ (122 + 12 * N ≤ j ∧ j < 134 + 12 * N))) : cms s N kk md0 j = s j := by
  unfold cms ovr
  rw [if_neg (by omega), upd_ne (by omega), upd_ne (by omega), upd_ne (by omega), upd_ne (by omega), upd_ne (by omega), upd_ne (by omega)]
theorem cms_n {N : Nat} {kk md0 : Int32} (hN : N < 20) : cms s N kk md0 (2 + N) = kk ∧ cms s N kk md0 (22 + N) = md0 ∧ cms s N kk md0 (42 + N) = m1 ∧ cms s N kk md0 (62 + N) = m1 ∧ cms s N kk md0 (82 + N) = m1 ∧ cms s N kk md0 (102 + N) = 0 ∧ ∀ k, k < 12 → cms s N kk md0 (122 + 12 * N + k) = m1 := by
  unfold cms ovr
  refine ⟨?_, ?_, ?_, ?_, ?_, ?_, fun k hk => ?_⟩
  · rw [if_neg (by omega), upd_ne (by omega), upd_ne (by omega), upd_ne (by omega), upd_ne (by omega), upd_ne (by omega), upd_eq]
  · rw [if_neg (by omega), upd_ne (by omega), upd_ne (by omega), upd_ne (by omega), upd_ne (by omega), upd_eq]
  · rw [if_neg (by omega), upd_ne (by omega), upd_ne (by omega), upd_ne (by omega), upd_eq]
  · rw [if_neg (by omega), upd_ne (by omega), upd_ne (by omega), upd_eq]
  · rw [if_neg (by omega), upd_ne (by omega), upd_eq]
  · rw [if_neg (by omega), upd_eq]
  · rw [if_pos (by omega)]
/-- slots taken over -/
def tks (s : RSt) (to fr k : Nat) : RSt := fun j => if 122 + 12 * to ≤ j ∧ j < 122 + 12 * to + k then s (122 + 12 * fr + (j - (122 + 12 * to))) else s j
theorem m_takes {s : RSt} {to fr : Nat} (ht : to < 20) (hf : fr < 20) (hne : to ≠ fr) : xX8_takesSlots s (nI to) (nI fr) = some (tks s to fr 12) := by
  unfold xX8_takesSlots
  have e0 : tks s to fr 0 = s := by
    funext j
    unfold tks
    rw [if_neg (by omega)]
  have hh : xX8_takesSlots_2 600 (nI to) (nI fr) (nI 0) (tks s to fr 0) = some (tks s to fr 12) := by
    refine loop0 (fun n i r => xX8_takesSlots_2 n (nI to) (nI fr) (nI i) r) (fun i => tks s to fr i) _ 12 600 (by decide) ?_ ?_
    · intro n i hi
      have e1 : tks s to fr i (122 + 12 * fr + i) = s (122 + 12 * fr + i) := by
        unfold tks
        rw [if_neg (by omega)]
      have e2 : upd (tks s to fr i) (122 + 12 * to + i) (s (122 + 12 * fr + i)) = tks s to fr (i + 1) := by
        funext j
        unfold upd tks
        by_cases h : j = 122 + 12 * to + i
        · rw [if_pos h, if_pos (by omega), show 122 + 12 * fr + (j - (122 + 12 * to)) = 122 + 12 * fr + i by omega]
        · rw [if_neg h]
          by_cases h2 : 122 + 12 * to ≤ j ∧ j < 122 + 12 * to + i
          · rw [if_pos h2, if_pos (by omega)]
          · rw [if_neg h2, if_neg (by omega)]
      rw [← e2, ← e1]
      generalize tks s to fr i = R
      simp only [xX8_takesSlots_2]
      simp (disch := omega) only [L0, L1, L2, L3, L4, L5, L8, L9, L10, L11, L12, L19, L20, L22, L40, L42, L60, L62, L82, L95, L96, L100, L102, L122, L240, L256, L362, L458, L554, L1000000000, L100000, Lm1, nI_addE, nI_mulE, nI_inj, nI_ltE, nI_leE, nI_clE, nI_m1, m1_nI, m1_lt, m1_le, nI_lt_m1, nI_le_m1, ix_nI, dT_le, dF_le, dT_lt, dF_lt, dT_eq, dF_eq, iT, iF, grd_t, lt1_s, bn1_s, bn2_s, bn3_s, bn4_s, bn5_s, nI_add0]
    · intro n
      generalize tks s to fr 12 = R
      simp only [xX8_takesSlots_2]
      simp (disch := omega) only [L0, L1, L2, L3, L4, L5, L8, L9, L10, L11, L12, L19, L20, L22, L40, L42, L60, L62, L82, L95, L96, L100, L102, L122, L240, L256, L362, L458, L554, L1000000000, L100000, Lm1, nI_addE, nI_mulE, nI_inj, nI_ltE, nI_leE, nI_clE, nI_m1, m1_nI, m1_lt, m1_le, nI_lt_m1, nI_le_m1, ix_nI, dT_le, dF_le, dT_lt, dF_lt, dT_eq, dF_eq, iT, iF, grd_t, lt1_s, bn1_s, bn2_s, bn3_s, bn4_s, bn5_s, nI_add0]
  rw [e0] at hh
  exact hh
theorem tks_at {s : RSt} {to fr t k : Nat} (hk : k < 12) : tks s to fr 12 (122 + 12 * t + k) = if t = to then s (122 + 12 * fr + k) else s (122 + 12 * t + k) := by
  unfold tks
  by_cases h : t = to
  · subst h
    rw [if_pos (by omega), if_pos rfl, show 122 + 12 * fr + (122 + 12 * t + k - (122 + 12 * t)) = 122 + 12 * fr + k by omega]
  · rw [if_neg (by omega), if_neg h]
theorem tks_o {s : RSt} {to fr j : Nat} (h : ¬ (122 + 12 * to ≤ j ∧ j < 134 + 12 * to)) : tks s to fr 12 j = s j := by
  unfold tks
  rw [if_neg (by omega)]
end
