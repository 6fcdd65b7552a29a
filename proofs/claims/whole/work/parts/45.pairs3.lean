/-! ===== remove, write, promote ===== -/
section
variable {P : PSt} {s : RSt} {n : Nat}
theorem alive {t : Nat} (h : hs P t) : P 0 t ≠ m1 := sN h
theorem m_nexts (hS : Sim P s) (hW : WInv P) {x : Nat} (hx : x < 20) : xX8_nexts s (nI x) = some (nI (nxc P (nI x))) := by
  unfold xX8_nexts
  refine loop0 (fun m i r => xX8_nexts_4 s m (nI x) r (nI i)) (fun i => nI (cnt (fun j => decide (P 2 j = nI x)) i)) _ 20 600 (by decide) ?_ ?_
  · intro m i hi
    simp only [xX8_nexts_4, cnt_s, m_hasT hS hi]
    by_cases h : hs P i
    · have e := (hS.2.2.1 i hi (alive h)).2.1
      have hk := hsk_hs.mpr h
      by_cases h2 : P 2 i = nI x
      · simp (disch := omega) only [L0, L1, L2, L3, L4, L5, L8, L9, L10, L11, L12, L19, L20, L22, L40, L42, L60, L62, L82, L95, L96, L100, L102, L122, L240, L256, L362, L458, L554, L1000000000, L100000, Lm1, nI_addE, nI_mulE, nI_inj, nI_ltE, nI_leE, nI_clE, nI_m1, m1_nI, m1_lt, m1_le, nI_lt_m1, nI_le_m1, ix_nI, dT_le, dF_le, dT_lt, dF_lt, dT_eq, dF_eq, iT, iF, grd_t, lt1_s, bn1_s, bn2_s, bn3_s, bn4_s, bn5_s, nI_add0, hk, e, eq_true h2, if_true, decide_true]
      · simp (disch := omega) only [L0, L1, L2, L3, L4, L5, L8, L9, L10, L11, L12, L19, L20, L22, L40, L42, L60, L62, L82, L95, L96, L100, L102, L122, L240, L256, L362, L458, L554, L1000000000, L100000, Lm1, nI_addE, nI_mulE, nI_inj, nI_ltE, nI_leE, nI_clE, nI_m1, m1_nI, m1_lt, m1_le, nI_lt_m1, nI_le_m1, ix_nI, dT_le, dF_le, dT_lt, dF_lt, dT_eq, dF_eq, iT, iF, grd_t, lt1_s, bn1_s, bn2_s, bn3_s, bn4_s, bn5_s, nI_add0, hk, e, eq_false h2, if_true, if_false, decide_false, Bool.false_eq_true, Nat.add_zero]
    · have hk : hsk (P 0 i) = false := by
        cases z : hsk (P 0 i) with
        | false => rfl
        | true => exact absurd (hsk_hs.mp z) h
      have h2 : ¬ P 2 i = nI x := by rw [(hW.2.2.1 i hi h).1]; exact Ne.symm (nI_ne_m1 (by omega))
      simp (disch := omega) only [L0, L1, L2, L3, L4, L5, L8, L9, L10, L11, L12, L19, L20, L22, L40, L42, L60, L62, L82, L95, L96, L100, L102, L122, L240, L256, L362, L458, L554, L1000000000, L100000, Lm1, nI_addE, nI_mulE, nI_inj, nI_ltE, nI_leE, nI_clE, nI_m1, m1_nI, m1_lt, m1_le, nI_lt_m1, nI_le_m1, ix_nI, dT_le, dF_le, dT_lt, dF_lt, dT_eq, dF_eq, iT, iF, grd_t, lt1_s, bn1_s, bn2_s, bn3_s, bn4_s, bn5_s, nI_add0, hk, eq_false h2, if_false, decide_false, Bool.false_eq_true, Nat.add_zero]
  · intro m
    simp only [xX8_nexts_4]
    simp (disch := omega) only [L0, L1, L2, L3, L4, L5, L8, L9, L10, L11, L12, L19, L20, L22, L40, L42, L60, L62, L82, L95, L96, L100, L102, L122, L240, L256, L362, L458, L554, L1000000000, L100000, Lm1, nI_addE, nI_mulE, nI_inj, nI_ltE, nI_leE, nI_clE, nI_m1, m1_nI, m1_lt, m1_le, nI_lt_m1, nI_le_m1, ix_nI, dT_le, dF_le, dT_lt, dF_lt, dT_eq, dF_eq, iT, iF, grd_t, lt1_s, bn1_s, bn2_s, bn3_s, bn4_s, bn5_s, nI_add0, nxc]
theorem m_owned (hS : Sim P s) (hW : WInv P) {x : Nat} (hx : x < 20) : xX8_owned s (nI x) = some (nI (owc P (nI x))) := by
  unfold xX8_owned
  refine loop0 (fun m i r => xX8_owned_4 s m (nI x) r (nI i)) (fun i => nI (cnt (fun j => decide (P 3 j = nI x)) i)) _ 20 600 (by decide) ?_ ?_
  · intro m i hi
    simp only [xX8_owned_4, cnt_s, m_isSnapshot hS, rd_nI (show 20 < 2147483648 by decide) hi]
    by_cases h : isS P i
    · have e := (hS.2.2.1 i hi (alive (Or.inr h))).2.2.1
      have hk : (P 0 i = 2 ∨ P 0 i = 3) = True := eq_true h
      by_cases h2 : P 3 i = nI x
      · simp only [hk]
        simp (disch := omega) only [L0, L1, L2, L3, L4, L5, L8, L9, L10, L11, L12, L19, L20, L22, L40, L42, L60, L62, L82, L95, L96, L100, L102, L122, L240, L256, L362, L458, L554, L1000000000, L100000, Lm1, nI_addE, nI_mulE, nI_inj, nI_ltE, nI_leE, nI_clE, nI_m1, m1_nI, m1_lt, m1_le, nI_lt_m1, nI_le_m1, ix_nI, dT_le, dF_le, dT_lt, dF_lt, dT_eq, dF_eq, iT, iF, grd_t, lt1_s, bn1_s, bn2_s, bn3_s, bn4_s, bn5_s, nI_add0, e, eq_true h2, if_true, decide_true]
      · simp only [hk]
        simp (disch := omega) only [L0, L1, L2, L3, L4, L5, L8, L9, L10, L11, L12, L19, L20, L22, L40, L42, L60, L62, L82, L95, L96, L100, L102, L122, L240, L256, L362, L458, L554, L1000000000, L100000, Lm1, nI_addE, nI_mulE, nI_inj, nI_ltE, nI_leE, nI_clE, nI_m1, m1_nI, m1_lt, m1_le, nI_lt_m1, nI_le_m1, ix_nI, dT_le, dF_le, dT_lt, dF_lt, dT_eq, dF_eq, iT, iF, grd_t, lt1_s, bn1_s, bn2_s, bn3_s, bn4_s, bn5_s, nI_add0, e, eq_false h2, if_true, if_false, decide_false, Bool.false_eq_true, Nat.add_zero]
    · have hk : (P 0 i = 2 ∨ P 0 i = 3) = False := eq_false h
      have h2 : ¬ P 3 i = nI x := fun z => h (own_isS hW.2.2.1 hW.2.2.2.1 hi hx z)
      simp only [hk]
      simp (disch := omega) only [L0, L1, L2, L3, L4, L5, L8, L9, L10, L11, L12, L19, L20, L22, L40, L42, L60, L62, L82, L95, L96, L100, L102, L122, L240, L256, L362, L458, L554, L1000000000, L100000, Lm1, nI_addE, nI_mulE, nI_inj, nI_ltE, nI_leE, nI_clE, nI_m1, m1_nI, m1_lt, m1_le, nI_lt_m1, nI_le_m1, ix_nI, dT_le, dF_le, dT_lt, dF_lt, dT_eq, dF_eq, iT, iF, grd_t, lt1_s, bn1_s, bn2_s, bn3_s, bn4_s, bn5_s, nI_add0, eq_false h2, if_false, decide_false, Bool.false_eq_true, Nat.add_zero]
  · intro m
    simp only [xX8_owned_4]
    simp (disch := omega) only [L0, L1, L2, L3, L4, L5, L8, L9, L10, L11, L12, L19, L20, L22, L40, L42, L60, L62, L82, L95, L96, L100, L102, L122, L240, L256, L362, L458, L554, L1000000000, L100000, Lm1, nI_addE, nI_mulE, nI_inj, nI_ltE, nI_leE, nI_clE, nI_m1, m1_nI, m1_lt, m1_le, nI_lt_m1, nI_le_m1, ix_nI, dT_le, dF_le, dT_lt, dF_lt, dT_eq, dF_eq, iT, iF, grd_t, lt1_s, bn1_s, bn2_s, bn3_s, bn4_s, bn5_s, nI_add0, owc]
theorem nxc_le (x : Int32) : nxc P x ≤ 20 := cnt_le _ 20
theorem owc_le (x : Int32) : owc P x ≤ 20 := cnt_le _ 20
/-- a snapshot has a follower -/
theorem nxc_pos (hW : WInv P) {t : Nat} (ht : t < 20) (h : isS P t) : 0 < nxc P (nI t) := by
  obtain ⟨f, hf, a1, a2, a3⟩ := hW.2.2.2.2.1 t ht h
  refine cnt_pos.mpr ?_
  rcases a3 with a3 | ⟨u, hu, b1, b2, b3⟩
  · exact ⟨f, hf, by rw [decide_eq_true_eq]; exact a3⟩
  · exact ⟨u, hu, by rw [decide_eq_true_eq]; exact b3⟩
theorem nxc_one {x : Int32} (h : nxc P x = 1) : ∃ N, N < 20 ∧ P 2 N = x ∧ ∀ j, j < 20 → P 2 j = x → j = N := by
  obtain ⟨N, hN, e⟩ := cnt_pos.mp (show 0 < cnt (fun j => decide (P 2 j = x)) 20 by unfold nxc at h; omega)
  rw [decide_eq_true_eq] at e
  exact ⟨N, hN, e, fun j hj ej => cnt_uniq h hj hN (by rw [decide_eq_true_eq]; exact ej) (by rw [decide_eq_true_eq]; exact e)⟩
theorem c_isLoose {t : Nat} (ht : t < 20) (h : isS P t) : xX4_isLoose P (nI t) = some (if P 4 t = 0 ∧ nxc P (nI t) = 1 then 1 else 0) := by
  unfold xX4_isLoose
  rw [c_isSnapshot, bn1_s, rd_nI (by decide) ht, if_pos (show P 0 t = 2 ∨ P 0 t = 3 from h), if_neg one_ne, c_tagsOf, bn1_s, rd_nI (by decide) ht, c_nextCount]
  by_cases h1 : P 4 t = 0
  · rw [if_pos h1, bn1_s]
    have := nxc_le (P := P) (nI t)
    by_cases h2 : nxc P (nI t) = 1
    · rw [h2, if_pos (show nI 1 = 1 from rfl), if_pos ⟨h1, rfl⟩]
    · rw [if_neg (show ¬ nI (nxc P (nI t)) = 1 from nI_ne_lit (b := 1) (by omega) (by omega) h2), if_neg (fun z => h2 z.2)]
  · rw [if_neg h1, if_neg (fun z => h1 z.1)]
theorem sim_kill (hS : Sim P s) {X : Nat} (hX : X < 20) : Sim (drp P X) (upd s (2 + X) m1) := by
  have e0 : drp P X 0 X = m1 := by rw [drp_lo (by omega), if_pos rfl]; rfl
  refine sim_new hS hX ?_ ?_ (fun a t ha ht => ?_) (fun t k ht hk hne => ?_) (drp_hi (by omega)) (drp_hi (by omega)) (fun j hj => upd_ne (by omega)) ?_ (fun h => absurd e0 h) (fun k hk h => absurd h (nhs_m1 e0))
  · rw [drp_hi (by omega)]
  · rw [drp_hi (by omega)]
  · rw [drp_lo ha, if_neg ht]
  · rw [drp_at ht hk, if_neg hne]
  · rw [upd_eq, e0]
theorem m_removed {X : Nat} (hX : X < 20) (hS : Sim P s) (hW : WInv P) (hd : RSt) (hX2 : P 0 X ≠ m1) (Q : PSt) (hQ : (Q = P ∧ ∀ j, j < 20 → P 2 j ≠ nI X) ∨ ∃ N, N < 20 ∧ N ≠ X ∧ P 2 N = nI X ∧ (∀ j, j < 20 → P 2 j = nI X → j = N) ∧ Q = st P 2 N (P 2 X)) (hWQ : WInv (drp Q X)) {P' : PSt} {m : Nat} (hG : GC (drp Q X) P' m) : ∃ s' hd', xX8_removed s hd (nI X) = some (nI m, s', hd') ∧ Sim P' s' := by
  have e42 := (hS.2.2.1 X hX hX2).2.1
  have hloop : ∃ k r, xX8_removed_2 600 (nI X) 0 s hd = xX8_removed_2 (k + 1) (nI X) (nI 20) r hd ∧ Sim Q r := by
    rcases hQ with ⟨rfl, hno⟩ | ⟨N, hN, hNX, hp, hu, rfl⟩
    · have := loopI (fun k i (r : RSt) => xX8_removed_2 k (nI X) (nI i) r hd) (fun _ r => r = s) 20 (fun k i r hi hr => by
        subst hr
        refine ⟨r, ?_, rfl⟩
        simp only [xX8_removed_2, m_hasT hS hi]
        by_cases h : hs Q i
        · have e := (hS.2.2.1 i hi (alive h)).2.1
          have hk := hsk_hs.mpr h
          simp (disch := omega) only [L0, L1, L2, L3, L4, L5, L8, L9, L10, L11, L12, L19, L20, L22, L40, L42, L60, L62, L82, L95, L96, L100, L102, L122, L240, L256, L362, L458, L554, L1000000000, L100000, Lm1, nI_addE, nI_mulE, nI_inj, nI_ltE, nI_leE, nI_clE, nI_m1, m1_nI, m1_lt, m1_le, nI_lt_m1, nI_le_m1, ix_nI, dT_le, dF_le, dT_lt, dF_lt, dT_eq, dF_eq, iT, iF, grd_t, lt1_s, bn1_s, bn2_s, bn3_s, bn4_s, bn5_s, nI_add0, hk, e, eq_false (hno i hi), if_true]
        · have hk : hsk (Q 0 i) = false := by
            cases z : hsk (Q 0 i) with
            | false => rfl
            | true => exact absurd (hsk_hs.mp z) h
          simp (disch := omega) only [L0, L1, L2, L3, L4, L5, L8, L9, L10, L11, L12, L19, L20, L22, L40, L42, L60, L62, L82, L95, L96, L100, L102, L122, L240, L256, L362, L458, L554, L1000000000, L100000, Lm1, nI_addE, nI_mulE, nI_inj, nI_ltE, nI_leE, nI_clE, nI_m1, m1_nI, m1_lt, m1_le, nI_lt_m1, nI_le_m1, ix_nI, dT_le, dF_le, dT_lt, dF_lt, dT_eq, dF_eq, iT, iF, grd_t, lt1_s, bn1_s, bn2_s, bn3_s, bn4_s, bn5_s, nI_add0, hk, Bool.false_eq_true, if_false]) 20 600 0 s (by omega) (by omega) rfl
      obtain ⟨k, r, e, hr⟩ := this
      subst hr
      exact ⟨k, r, e, hS⟩
    · have hS2 := sim_prev (v := P 2 X) hS hN
      have := loopI (fun k i (r : RSt) => xX8_removed_2 k (nI X) (nI i) r hd) (fun i r => r = if N < i then upd s (42 + N) (P 2 X) else s) 20 (fun k i r hi hr => by
        rcases Nat.lt_trichotomy i N with h1 | h1 | h1
        · rw [if_neg (by omega)] at hr
          subst hr
          refine ⟨r, ?_, by rw [if_neg (by omega)]⟩
          simp only [xX8_removed_2, m_hasT hS hi]
          by_cases h : hs P i
          · have e := (hS.2.2.1 i hi (alive h)).2.1
            have hk := hsk_hs.mpr h
            have hne : ¬ P 2 i = nI X := fun z => by have := hu i hi z; omega
            simp (disch := omega) only [L0, L1, L2, L3, L4, L5, L8, L9, L10, L11, L12, L19, L20, L22, L40, L42, L60, L62, L82, L95, L96, L100, L102, L122, L240, L256, L362, L458, L554, L1000000000, L100000, Lm1, nI_addE, nI_mulE, nI_inj, nI_ltE, nI_leE, nI_clE, nI_m1, m1_nI, m1_lt, m1_le, nI_lt_m1, nI_le_m1, ix_nI, dT_le, dF_le, dT_lt, dF_lt, dT_eq, dF_eq, iT, iF, grd_t, lt1_s, bn1_s, bn2_s, bn3_s, bn4_s, bn5_s, nI_add0, hk, e, eq_false hne, if_true]
          · have hk : hsk (P 0 i) = false := by
              cases z : hsk (P 0 i) with
              | false => rfl
              | true => exact absurd (hsk_hs.mp z) h
            simp (disch := omega) only [L0, L1, L2, L3, L4, L5, L8, L9, L10, L11, L12, L19, L20, L22, L40, L42, L60, L62, L82, L95, L96, L100, L102, L122, L240, L256, L362, L458, L554, L1000000000, L100000, Lm1, nI_addE, nI_mulE, nI_inj, nI_ltE, nI_leE, nI_clE, nI_m1, m1_nI, m1_lt, m1_le, nI_lt_m1, nI_le_m1, ix_nI, dT_le, dF_le, dT_lt, dF_lt, dT_eq, dF_eq, iT, iF, grd_t, lt1_s, bn1_s, bn2_s, bn3_s, bn4_s, bn5_s, nI_add0, hk, Bool.false_eq_true, if_false]
        · subst h1
          rw [if_neg (by omega)] at hr
          subst hr
          refine ⟨upd r (42 + i) (P 2 X), ?_, by rw [if_pos (by omega)]⟩
          have h : hs P i := pv_hs hW.2.2.1 hi hX hp
          have e := (hS.2.2.1 i hi (alive h)).2.1
          have hk := hsk_hs.mpr h
          simp only [xX8_removed_2, m_hasT hS hi]
          simp (disch := omega) only [L0, L1, L2, L3, L4, L5, L8, L9, L10, L11, L12, L19, L20, L22, L40, L42, L60, L62, L82, L95, L96, L100, L102, L122, L240, L256, L362, L458, L554, L1000000000, L100000, Lm1, nI_addE, nI_mulE, nI_inj, nI_ltE, nI_leE, nI_clE, nI_m1, m1_nI, m1_lt, m1_le, nI_lt_m1, nI_le_m1, ix_nI, dT_le, dF_le, dT_lt, dF_lt, dT_eq, dF_eq, iT, iF, grd_t, lt1_s, bn1_s, bn2_s, bn3_s, bn4_s, bn5_s, nI_add0, hk, e, eq_true hp, e42, if_true]
        · rw [if_pos h1] at hr
          subst hr
          refine ⟨upd s (42 + N) (P 2 X), ?_, by rw [if_pos (by omega)]⟩
          have k0 : st P 2 N (P 2 X) 0 i = P 0 i := st_ne1 (by decide)
          simp only [xX8_removed_2, m_hasT hS2 hi, k0]
          by_cases h : hs P i
          · have e := (hS2.2.2.1 i hi (by rw [k0]; exact alive h)).2.1
            rw [st_ne2 (by omega)] at e
            have hk := hsk_hs.mpr h
            have hne : ¬ P 2 i = nI X := fun z => by have := hu i hi z; omega
            simp (disch := omega) only [L0, L1, L2, L3, L4, L5, L8, L9, L10, L11, L12, L19, L20, L22, L40, L42, L60, L62, L82, L95, L96, L100, L102, L122, L240, L256, L362, L458, L554, L1000000000, L100000, Lm1, nI_addE, nI_mulE, nI_inj, nI_ltE, nI_leE, nI_clE, nI_m1, m1_nI, m1_lt, m1_le, nI_lt_m1, nI_le_m1, ix_nI, dT_le, dF_le, dT_lt, dF_lt, dT_eq, dF_eq, iT, iF, grd_t, lt1_s, bn1_s, bn2_s, bn3_s, bn4_s, bn5_s, nI_add0, hk, e, eq_false hne, if_true]
          · have hk : hsk (P 0 i) = false := by
              cases z : hsk (P 0 i) with
              | false => rfl
              | true => exact absurd (hsk_hs.mp z) h
            simp (disch := omega) only [L0, L1, L2, L3, L4, L5, L8, L9, L10, L11, L12, L19, L20, L22, L40, L42, L60, L62, L82, L95, L96, L100, L102, L122, L240, L256, L362, L458, L554, L1000000000, L100000, Lm1, nI_addE, nI_mulE, nI_inj, nI_ltE, nI_leE, nI_clE, nI_m1, m1_nI, m1_lt, m1_le, nI_lt_m1, nI_le_m1, ix_nI, dT_le, dF_le, dT_lt, dF_lt, dT_eq, dF_eq, iT, iF, grd_t, lt1_s, bn1_s, bn2_s, bn3_s, bn4_s, bn5_s, nI_add0, hk, Bool.false_eq_true, if_false]) 20 600 0 s (by omega) (by omega) (by rw [if_neg (by omega)])
      obtain ⟨k, r, e, hr⟩ := this
      rw [if_pos hN] at hr
      subst hr
      exact ⟨k, _, e, hS2⟩
  obtain ⟨k, r, e, hSr⟩ := hloop
  obtain ⟨s', hd', e3, hS'⟩ := m_frees (sim_kill hSr hX) hWQ hG hd
  refine ⟨s', hd', ?_, hS'⟩
  unfold xX8_removed
  refine e.trans ?_
  simp only [xX8_removed_2]
  simp (disch := omega) only [L0, L1, L2, L3, L4, L5, L8, L9, L10, L11, L12, L19, L20, L22, L40, L42, L60, L62, L82, L95, L96, L100, L102, L122, L240, L256, L362, L458, L554, L1000000000, L100000, Lm1, nI_addE, nI_mulE, nI_inj, nI_ltE, nI_leE, nI_clE, nI_m1, m1_nI, m1_lt, m1_le, nI_lt_m1, nI_le_m1, ix_nI, dT_le, dF_le, dT_lt, dF_lt, dT_eq, dF_eq, iT, iF, grd_t, lt1_s, bn1_s, bn2_s, bn3_s, bn4_s, bn5_s, nI_add0]
  rw [e3, bn3_s]
theorem nI_le0 {a : Nat} (h : a ≤ 20) : (nI a ≤ 0) ↔ a = 0 := by
  rw [L0, nI_leE (by omega) (by omega)]
  omega
theorem p_remove (h : Good P s n) (hd : RSt) (x : Int32) : ∃ r P' s' hd', xX0_removeThing P x = some (r, P') ∧ xX8_remove s hd x = some (r, s', hd') ∧ Good P' s' (n + 1) := by
  have hg := h.up (Nat.le_succ n)
  obtain ⟨hI, hS, ht⟩ := h
  have hW := hI.w
  unfold xX0_removeThing xX8_remove
  rw [c_refN, bn1_s, m_there hS, bn1_s]
  by_cases hr : refN P x = 0
  · obtain ⟨t, ht2, rfl, hk2⟩ := refN_ok hr
    have ea : (102 : Int32) + nI t = nI (102 + t) := nI_addE 102 t
    have et := (hS.2.2.1 t ht2 hk2).2.2.2.2
    rw [if_pos hr, if_pos hr, c_isSnapshot, bn1_s, m_isSnapshot hS, bn1_s, rd_nI (by decide) ht2, ea, ix_nI (by omega) (by omega), grd_t, nI_clE (by omega), et, m_nexts hS hW ht2, bn1_s]
    by_cases hSn : isS P t
    · have hF : ¬ isF P t := sF hSn
      rw [if_pos (show P 0 t = 2 ∨ P 0 t = 3 from hSn), if_neg one_ne, if_neg one_ne, c_isLoose ht2 hSn, bn1_s]
      have hpos := nxc_pos hW ht2 hSn
      have hle := nxc_le (P := P) (nI t)
      by_cases h4 : P 4 t = 0
      · rw [if_pos h4]
        by_cases h1 : nxc P (nI t) = 1
        · obtain ⟨N, hN, hp, hu⟩ := nxc_one h1
          obtain ⟨m, P', e1, hG, hI'⟩ := c_rmSnap hI ht2 hN hSn hp hu
          have hNt : N ≠ t := by
            intro z
            have hh := pv_isS hW.2.2.2.2.2.1 hN ht2 hp
            rw [z] at hh
            have := hh.2 hSn
            omega
          have hWQ : WInv (drp (st P 2 N (P 2 t)) t) := by
            refine W_rmS hW ht2 hN hSn hp hu (fun u => ?_) (fun u hh => ?_) (fun u => ?_) (fun u => ?_) (fun u => ?_) (fun u => ?_) (fun a ha => ?_) (fun u k hu2 hk => ?_)
            · rw [drp_lo (by omega), st_ne1 (by decide)]; rfl
            · rw [drp_lo (by omega), st_ne1 (by decide), if_neg hh]
            · rw [drp_lo (by omega), st_if]
              by_cases w : u = t
              · rw [if_pos w, if_pos w]; rfl
              · rw [if_neg w, if_neg w]
                by_cases y : u = N
                · rw [if_pos ⟨rfl, y⟩, if_pos y]
                · rw [if_neg (by omega), if_neg y]
            · rw [drp_lo (by omega), st_ne1 (by decide)]; rfl
            · rw [drp_lo (by omega), st_ne1 (by decide)]; rfl
            · rw [drp_lo (by omega), st_ne1 (by decide)]; rfl
            · rw [drp_hi (by omega), st_row (by omega)]
            · rw [drp_at hu2 hk, st_ne1 (by decide)]
          obtain ⟨s', hd', e2, hS'⟩ := m_removed ht2 hS hW hd hk2 _ (Or.inr ⟨N, hN, hNt, hp, hu, rfl⟩) hWQ hG
          refine ⟨nI m, P', s', hd', ?_, ?_, hI', hS', ?_⟩
          · rw [if_pos (show P 4 t = 0 ∧ nxc P (nI t) = 1 from ⟨h4, h1⟩), if_neg one_ne, e1, bn2_s]
          · rw [h1, if_neg (show ¬ (1 : Int32) < nI 1 by decide)]
            unfold xX8_remove_41 xX8_remove_60
            rw [m_isFiles hS, bn1_s, rd_nI (by decide) ht2, if_neg (show ¬ (P 0 t = 0 ∨ P 0 t = 1) from hF), if_pos zero_eq, e2, bn3_s]
          · rw [GC_tm hG]
            unfold tm at *
            rw [drp_hi (by omega), st_ne1 (by decide)]; omega
        · refine ⟨-3, P, s, hd, ?_, ?_, hg⟩
          · rw [if_neg (show ¬ (P 4 t = 0 ∧ nxc P (nI t) = 1) from fun z => h1 z.2), if_pos zero_eq]
          · rw [if_pos (show (1 : Int32) < nI (nxc P (nI t)) by rw [L1, nI_ltE (by omega) (by omega)]; omega)]
      · rw [if_neg h4, if_neg (show ¬ (P 4 t = 0 ∧ nxc P (nI t) = 1) from fun z => h4 z.1), if_pos zero_eq]
        exact ⟨-3, P, s, hd, rfl, rfl, hg⟩
    · rw [if_neg (show ¬ (P 0 t = 2 ∨ P 0 t = 3) from hSn), if_pos zero_eq, if_pos zero_eq, c_ownCount, bn1_s]
      unfold xX8_remove_41 xX8_remove_60
      rw [m_isFiles hS, bn1_s, rd_nI (by decide) ht2, m_owned hS hW ht2, bn1_s]
      have hole := owc_le (P := P) (nI t)
      have nox : ∀ j, j < 20 → P 2 j ≠ nI t := fun j hj z => hSn (pv_isS hW.2.2.2.2.2.1 hj ht2 z).1
      have etm : ∀ {P' : PSt} {m : Nat}, GC (drp P t) P' m → tm P' ≤ 100000 + ((n + 1 : Nat) : Int) := by
        intro P' m hG
        rw [GC_tm hG]
        unfold tm at *
        rw [drp_hi (by omega)]; omega
      by_cases hF : isF P t
      · rw [if_pos (show P 0 t = 0 ∨ P 0 t = 1 from hF), if_neg one_ne]
        by_cases ho : owc P (nI t) = 0
        · have hno : ∀ u, u < 20 → P 3 u ≠ nI t := by
            intro u hu z
            have := cnt_zero.mp ho u hu
            rw [decide_eq_false_iff_not] at this
            exact this z
          obtain ⟨m, P', e1, hG, hI'⟩ := c_removeFiles hI ht2 hF hno
          obtain ⟨s', hd', e2, hS'⟩ := m_removed ht2 hS hW hd hk2 P (Or.inl ⟨rfl, nox⟩) (drp_W hW ht2 hSn hno) hG
          rw [if_pos ((nI_le0 hole).mpr ho), if_pos ((nI_le0 hole).mpr ho), e2, bn3_s]
          exact ⟨nI m, P', s', hd', e1, rfl, hI', hS', etm hG⟩
        · rw [if_neg (fun z => ho ((nI_le0 hole).mp z)), if_neg (fun z => ho ((nI_le0 hole).mp z))]
          exact ⟨-3, P, s, hd, rfl, rfl, hg⟩
      · have h4 : P 0 t = 4 := by
          rcases hI.1 t ht2 with z | z | z
          · exact absurd z hk2
          · rcases z with z | z
            · exact absurd z hF
            · exact absurd z hSn
          · exact z
        obtain ⟨e1, hG, hI'⟩ := c_removeMark hI ht2 h4
        have hno : ∀ u, u < 20 → P 3 u ≠ nI t := by
          intro u hu z
          obtain ⟨g, hg2, a1, a2, -⟩ := hW.2.2.2.2.1 u hu (own_isS hW.2.2.1 hW.2.2.2.1 hu ht2 z)
          have : g = t := nI_lt_inj (by omega) (by omega) (a1.symm.trans z)
          subst this
          exact hF a2
        have ho : owc P (nI t) = 0 := cnt_zero.mpr (fun u hu => by rw [decide_eq_false_iff_not]; exact hno u hu)
        obtain ⟨s', hd', e2, hS'⟩ := m_removed ht2 hS hW hd hk2 P (Or.inl ⟨rfl, nox⟩) (drp_W hW ht2 hSn hno) hG
        rw [if_neg (show ¬ (P 0 t = 0 ∨ P 0 t = 1) from hF), if_pos zero_eq, if_pos ((nI_le0 hole).mpr ho), e2, bn3_s]
        exact ⟨nI 0, _, s', hd', e1, rfl, hI', hS', etm hG⟩
  · rw [if_neg hr, if_neg hr]
    exact ⟨refN P x, P, s, hd, rfl, rfl, hg⟩
end
