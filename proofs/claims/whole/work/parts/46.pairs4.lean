/-! ===== write, promote ===== -/
section
variable {P : PSt} {s : RSt} {n : Nat}
/-- the size of what stands in a slot -/
def szs (P : PSt) (t k : Nat) : Int32 := rd 96 (P 7) 0 (P 6 (t * 12 + k))
def spc (P : PSt) (t : Nat) : Int64 := sumL (fun k => (szs P t k).toInt64) 12
theorem c_space {t : Nat} (ht : t < 20) : xX4_spaceOf P (nI t) = some (spc P t) := by
  rw [c_spaceOf]
  unfold spc szs
  rw [sumL_cong (fun k hk => by rw [bi_nI ht hk])]
theorem m_sizeIn (hS : Sim P s) (hW : WInv P) {t k : Nat} (ht : t < 20) (hk : k < 12) (h : hs P t) : xX8_sizeIn s (nI t) (nI k) = some (szs P t k) := by
  have e := sim_slot hS ht hk h
  unfold xX8_sizeIn szs
  rcases hW.2.2.2.2.2.2.2.1 t k ht hk with z | ⟨b, hb, z, -⟩
  · rw [z] at e
    rw [z, rd_m1]
    simp (disch := omega) only [L0, L1, L2, L3, L4, L5, L8, L9, L10, L11, L12, L19, L20, L22, L40, L42, L60, L62, L82, L95, L96, L100, L102, L122, L240, L256, L362, L458, L554, L1000000000, L100000, Lm1, nI_addE, nI_mulE, nI_inj, nI_ltE, nI_leE, nI_clE, nI_m1, m1_nI, m1_lt, m1_le, nI_lt_m1, nI_le_m1, ix_nI, dT_le, dF_le, dT_lt, dF_lt, dT_eq, dF_eq, iT, iF, grd_t, lt1_s, bn1_s, bn2_s, bn3_s, bn4_s, bn5_s, nI_add0, e]
  · have z' : P 6 (t * 12 + k) = nI b := z
    rw [z'] at e
    rw [z', rd_nI (by decide) hb]
    have e7 := hS.2.2.2.2.1 b hb
    simp (disch := omega) only [L0, L1, L2, L3, L4, L5, L8, L9, L10, L11, L12, L19, L20, L22, L40, L42, L60, L62, L82, L95, L96, L100, L102, L122, L240, L256, L362, L458, L554, L1000000000, L100000, Lm1, nI_addE, nI_mulE, nI_inj, nI_ltE, nI_leE, nI_clE, nI_m1, m1_nI, m1_lt, m1_le, nI_lt_m1, nI_le_m1, ix_nI, dT_le, dF_le, dT_lt, dF_lt, dT_eq, dF_eq, iT, iF, grd_t, lt1_s, bn1_s, bn2_s, bn3_s, bn4_s, bn5_s, nI_add0, e, e7]
theorem L64_0 (x : Int64) : x + 0 = x := by simp
theorem m_spaceOf (hS : Sim P s) (hW : WInv P) {t : Nat} (ht : t < 20) (h : hs P t) : xX8_spaceOf s (nI t) = some (spc P t) := by
  unfold xX8_spaceOf
  refine loop0 (fun m i r => xX8_spaceOf_5 s m (nI t) r (nI i)) (fun i => sumL (fun k => (szs P t k).toInt64) i) _ 12 600 (by decide) ?_ ?_
  · intro m k hk
    have e := sim_slot hS ht hk h
    simp only [xX8_spaceOf_5, sumL_s]
    unfold szs
    rcases hW.2.2.2.2.2.2.2.1 t k ht hk with z | ⟨b, hb, z, -⟩
    · rw [z] at e
      rw [z, rd_m1]
      simp (disch := omega) only [L0, L1, L2, L3, L4, L5, L8, L9, L10, L11, L12, L19, L20, L22, L40, L42, L60, L62, L82, L95, L96, L100, L102, L122, L240, L256, L362, L458, L554, L1000000000, L100000, Lm1, nI_addE, nI_mulE, nI_inj, nI_ltE, nI_leE, nI_clE, nI_m1, m1_nI, m1_lt, m1_le, nI_lt_m1, nI_le_m1, ix_nI, dT_le, dF_le, dT_lt, dF_lt, dT_eq, dF_eq, iT, iF, grd_t, lt1_s, bn1_s, bn2_s, bn3_s, bn4_s, bn5_s, nI_add0, e]
      rfl
    · have z' : P 6 (t * 12 + k) = nI b := z
      rw [z'] at e
      rw [z', rd_nI (by decide) hb]
      have e7 := hS.2.2.2.2.1 b hb
      simp (disch := omega) only [L0, L1, L2, L3, L4, L5, L8, L9, L10, L11, L12, L19, L20, L22, L40, L42, L60, L62, L82, L95, L96, L100, L102, L122, L240, L256, L362, L458, L554, L1000000000, L100000, Lm1, nI_addE, nI_mulE, nI_inj, nI_ltE, nI_leE, nI_clE, nI_m1, m1_nI, m1_lt, m1_le, nI_lt_m1, nI_le_m1, ix_nI, dT_le, dF_le, dT_lt, dF_lt, dT_eq, dF_eq, iT, iF, grd_t, lt1_s, bn1_s, bn2_s, bn3_s, bn4_s, bn5_s, nI_add0, e, e7]
  · intro m
    simp only [xX8_spaceOf_5]
    simp (disch := omega) only [L0, L1, L2, L3, L4, L5, L8, L9, L10, L11, L12, L19, L20, L22, L40, L42, L60, L62, L82, L95, L96, L100, L102, L122, L240, L256, L362, L458, L554, L1000000000, L100000, Lm1, nI_addE, nI_mulE, nI_inj, nI_ltE, nI_leE, nI_clE, nI_m1, m1_nI, m1_lt, m1_le, nI_lt_m1, nI_le_m1, ix_nI, dT_le, dF_le, dT_lt, dF_lt, dT_eq, dF_eq, iT, iF, grd_t, lt1_s, bn1_s, bn2_s, bn3_s, bn4_s, bn5_s, nI_add0]
    rfl
theorem p_fill (hI : Inv P) (hS : Sim P s) {f k : Nat} (hf : f < 20) (hk : k < 12) (hF : isF P f) {v : Int32} (hv : 1 ≤ v.toInt ∧ v.toInt ≤ 1000000000) (hd : RSt) : ∃ r P' s' hd', xX0_fillSlot P (nI f) (nI k) v = some (r, P') ∧ xX8_written s hd (nI f) (nI k) v = some (r, s', hd') ∧ (r = -4 ∨ ∃ N, N < 96 ∧ r = nI N) ∧ Inv P' ∧ Sim P' s' ∧ tm P' = tm P := by
  have hW := hI.w
  have hkf : P 0 f ≠ m1 := sN (Or.inl hF)
  generalize hN : fst1 (fun j => decide (P 7 j = 0)) 96 = N
  have hle : N ≤ 96 := hN ▸ fst1_le _ 96
  have e2 := hS.2.1 f hf
  have e82 := (hS.2.2.1 f hf hkf).2.2.2.1
  have e0 : s 0 = P 9 0 := hS.1.1
  have a2 : (2 : Int32) + nI f = nI (2 + f) := nI_addE 2 f
  have a82 : (82 : Int32) + nI f = nI (82 + f) := nI_addE 82 f
  have hq := hW.2.2.2.1 f hf hF
  have hfill := c_fill59 hI hf hk hF hv hN
  -- where it is filled
  have go : ∃ r P' s' hd', xX0_fillSlot_59 (nI f) (nI k) v P = some (r, P') ∧ xX8_written_53 (nI f) (nI k) v (nI N) 0 s hd = some (r, s', hd') ∧ (r = -4 ∨ ∃ N, N < 96 ∧ r = nI N) ∧ Inv P' ∧ Sim P' s' ∧ tm P' = tm P := by
    by_cases h96 : N < 96
    · obtain ⟨m, P', e1, hG, hI'⟩ := hfill.1 h96
      have hz1 : sz1 P N = 0 := by
        have := fst1_yes (fun j => decide (P 7 j = 0)) 96 (by omega)
        rw [hN, decide_eq_true_eq] at this
        unfold sz1; rw [this]; decide
      have hWQ := W_fill hW hf hk h96 hF hz1 hv (fun a ha => fil_row (P := P) (f := f) (k := k) (N := N) (v := v) (tv := P 9 0) (by omega)) (fun i => fil_6) (fun i => fil_7) (fun i => fil_8)
      have hsim : Sim (fil P f k N v (P 9 0)) (upd (upd (upd s (362 + N) v) (458 + N) (P 9 0)) (122 + 12 * f + k) (nI N)) := sim_cell (sim_block hS h96) hf hk
      obtain ⟨s', hd', e3, hS'⟩ := m_frees hsim hWQ hG hd
      refine ⟨nI N, P', s', hd', e1, ?_, Or.inr ⟨N, h96, rfl⟩, hI', hS', ?_⟩
      · unfold xX8_written_53
        have e0' : upd s (362 + N) v 0 = P 9 0 := by rw [upd_ne (by omega)]; exact e0
        simp (disch := omega) only [L0, L1, L2, L3, L4, L5, L8, L9, L10, L11, L12, L19, L20, L22, L40, L42, L60, L62, L82, L95, L96, L100, L102, L122, L240, L256, L362, L458, L554, L1000000000, L100000, Lm1, nI_addE, nI_mulE, nI_inj, nI_ltE, nI_leE, nI_clE, nI_m1, m1_nI, m1_lt, m1_le, nI_lt_m1, nI_le_m1, ix_nI, dT_le, dF_le, dT_lt, dF_lt, dT_eq, dF_eq, iT, iF, grd_t, lt1_s, bn1_s, bn2_s, bn3_s, bn4_s, bn5_s, nI_add0, e0']
        rw [e3, bn3_s]
      · rw [GC_tm hG]
        unfold tm
        rw [fil_row (by omega)]
    · have : N = 96 := by omega
      subst this
      refine ⟨-4, P, s, hd, hfill.2 h96, ?_, Or.inl rfl, hI, hS, rfl⟩
      unfold xX8_written_53
      rw [if_pos (show nI 96 = 96 from rfl)]
  unfold xX0_fillSlot xX8_written
  rw [c_quotaOf, bn1_s, rd_nI (by decide) hf, c_space hf, bn1_s, c_blockIn, bn1_s, bi_nI hf hk, c_sizeOf, bn1_s, m_newBlock hS hW.2.2.2.2.2.2.2.2.1 hN, bn1_s, a2, ix_nI (by omega) (by omega), grd_t, nI_clE (by omega), e2]
  rcases hF with hF0 | hF1
  · rw [if_pos (show P 5 f = -1 from hq.2.1 hF0), if_neg (show ¬ P 0 f = 1 by rw [hF0]; decide)]
    exact go
  · have hq1 := hq.2.2 hF1
    rw [if_neg (show ¬ P 5 f = -1 from hq1), if_pos hF1, m_spaceOf hS hW hf (Or.inl (Or.inr hF1)), bn1_s, m_sizeIn hS hW hf hk (Or.inl (Or.inr hF1)), bn1_s, a82, ix_nI (by omega) (by omega), grd_t, nI_clE (by omega), e82]
    show ∃ r P' s' hd', (if lg_cmp (spc P f - (szs P f k).toInt64 + v.toInt64) (P 5 f).toInt64 ≤ 0 then _ else _) = _ ∧ _
    by_cases hc : lg_cmp (spc P f - (szs P f k).toInt64 + v.toInt64) (P 5 f).toInt64 ≤ 0
    · rw [if_pos hc, if_pos hc]
      exact go
    · rw [if_neg hc, if_neg hc]
      refine ⟨-4, P, s, hd, rfl, ?_, Or.inl rfl, hI, hS, rfl⟩
      unfold xX8_written_53
      by_cases h96 : nI N = 96
      · rw [if_pos h96]
      · rw [if_neg h96, if_neg one_ne]
theorem p_write (h : Good P s n) (hd : RSt) (x y z : Int32) : ∃ r P' s' hd', xX0_writeSlot P x y z = some (r, P') ∧ xX8_write s hd x y z = some (r, s', hd') ∧ Good P' s' (n + 1) := by
  have hg := h.up (Nat.le_succ n)
  obtain ⟨hI, hS, ht⟩ := h
  unfold xX0_writeSlot xX8_write
  rw [m_in, bn1_s, m_in, bn1_s]
  rcases arg_ix y (n := 12) (by decide) with hy | ⟨k, hk, rfl⟩
  · rw [if_neg (show ¬ (0 ≤ y ∧ y ≤ 11) from out_k (n := 11) (by decide) hy), if_pos zero_eq]
    refine ⟨-2, P, s, hd, ?_, rfl, hg⟩
    by_cases h0 : y < 0
    · rw [if_pos h0]
    · rw [if_neg h0, if_pos]
      rcases hy with hy | hy
      · exact absurd hy h0
      · exact hy
  · rw [if_pos (show (0 : Int32) ≤ nI k ∧ nI k ≤ 11 from in_k (n := 11) (by omega) (by decide)), if_neg one_ne, if_neg (show ¬ nI k < 0 from nI_pos (by omega)), if_neg (show ¬ (12 : Int32) ≤ nI k by rw [L12, nI_leE (by omega) (by omega)]; omega)]
    by_cases h1 : z < 1
    · rw [if_pos h1, if_neg (show ¬ (1 ≤ z ∧ z ≤ 1000000000) from fun w => by
        have := w.1
        rw [Int32.lt_iff_toInt_lt] at h1
        rw [Int32.le_iff_toInt_le] at this
        omega), if_pos zero_eq]
      exact ⟨-2, P, s, hd, rfl, rfl, hg⟩
    · rw [if_neg h1]
      have h1' : (1 : Int32) ≤ z := by
        rw [Int32.le_iff_toInt_le]
        rw [Int32.lt_iff_toInt_lt] at h1
        omega
      by_cases h2 : z ≤ 1000000000
      · rw [if_pos h2, if_pos (show (1 : Int32) ≤ z ∧ z ≤ 1000000000 from ⟨h1', h2⟩), if_neg one_ne, c_refA, bn1_s, m_asked hS, bn1_s]
        by_cases hr : refA P x 0 = 0
        · obtain ⟨f, hf, rfl, hk2, hu⟩ := refA_ok hr
          have hv : 1 ≤ z.toInt ∧ z.toInt ≤ 1000000000 := by
            rw [Int32.le_iff_toInt_le] at h1' h2
            rw [show (1 : Int32).toInt = 1 by decide] at h1'
            rw [show (1000000000 : Int32).toInt = 1000000000 by decide] at h2
            exact ⟨h1', h2⟩
          obtain ⟨r, P', s', hd', e1, e2, -, hI', hS', etm⟩ := p_fill hI hS hf hk (isF_of hu) hv hd
          rw [if_pos hr, if_pos hr, e1, bn2_s, e2, bn3_s]
          exact ⟨r, P', s', hd', rfl, rfl, hI', hS', by omega⟩
        · rw [if_neg hr, if_neg hr]
          exact ⟨refA P x 0, P, s, hd, rfl, rfl, hg⟩
      · rw [if_neg h2, if_neg (show ¬ (1 ≤ z ∧ z ≤ 1000000000) from fun w => h2 w.2), if_pos zero_eq]
        exact ⟨-2, P, s, hd, rfl, rfl, hg⟩
/-! promote -/
theorem c_originOf {f : Nat} (hI : WInv P) (hf : f < 20) (hF : isF P f) : xX4_originOf P (nI f) = some (itr P (nI f) (owc P (nI f) + 1)) := by
  unfold xX4_originOf
  have := (own_pref hI hf hF).2.2.2
  rw [c_isFiles, bn1_s, rd_nI (by decide) hf, if_pos (show P 0 f = 0 ∨ P 0 f = 1 from hF), if_neg one_ne, c_ownCount, bn1_s, c_inChain this, bn1_s, itr_s]
theorem m_originOf (hS : Sim P s) (hI : WInv P) {f : Nat} (hf : f < 20) (hF : isF P f) : xX8_originOf s (nI f) = some (itr P (nI f) (owc P (nI f) + 1)) := by
  have hkf : P 0 f ≠ m1 := sN (Or.inl hF)
  obtain ⟨o1, o2, -, o4⟩ := own_pref hI hf hF
  have e42 := (hS.2.2.1 f hf hkf).2.1
  have a42 : (42 : Int32) + nI f = nI (42 + f) := nI_addE 42 f
  unfold xX8_originOf
  rw [a42, ix_nI (by omega) (by omega), grd_t, nI_clE (by omega), e42]
  have e1 : P 2 f = itr P (nI f) (0 + 1) := (ch_next (P := P) (x := nI f) (i := 0) hf rfl).symm
  rw [e1]
  refine loop0 (fun m i r => xX8_originOf_10 s m (nI f) r) (fun i => itr P (nI f) (i + 1)) _ (owc P (nI f)) 600 (by omega) ?_ ?_
  · intro m i hi
    obtain ⟨x, hx, ex, ox, sx⟩ := o1 i hi
    have e3 := (hS.2.2.1 x hx (sN (Or.inr sx)))
    have nx : itr P (nI f) (i + 1 + 1) = P 2 x := ch_next hx ex
    simp only [xX8_originOf_10, ex, nx]
    have h62 := e3.2.2.1
    have h42 := e3.2.1
    simp (disch := omega) only [L0, L1, L2, L3, L4, L5, L8, L9, L10, L11, L12, L19, L20, L22, L40, L42, L60, L62, L82, L95, L96, L100, L102, L122, L240, L256, L362, L458, L554, L1000000000, L100000, Lm1, nI_addE, nI_mulE, nI_inj, nI_ltE, nI_leE, nI_clE, nI_m1, m1_nI, m1_lt, m1_le, nI_lt_m1, nI_le_m1, ix_nI, dT_le, dF_le, dT_lt, dF_lt, dT_eq, dF_eq, iT, iF, grd_t, lt1_s, bn1_s, bn2_s, bn3_s, bn4_s, bn5_s, nI_add0, h62, h42, ox, eq_self_iff_true]
  · intro m
    simp only [xX8_originOf_10]
    rcases ch_snap hI.2.2.2.2.2.1 hf (owc P (nI f)) with z | ⟨x, hx, ex, sx⟩
    · rw [z, if_pos rfl]
    · have e3 := (hS.2.2.1 x hx (sN (Or.inr sx)))
      have h62 := e3.2.2.1
      have hne : (P 3 x = nI f) = False := eq_false (o2 x hx ex)
      rw [ex]
      simp (disch := omega) only [L0, L1, L2, L3, L4, L5, L8, L9, L10, L11, L12, L19, L20, L22, L40, L42, L60, L62, L82, L95, L96, L100, L102, L122, L240, L256, L362, L458, L554, L1000000000, L100000, Lm1, nI_addE, nI_mulE, nI_inj, nI_ltE, nI_leE, nI_clE, nI_m1, m1_nI, m1_lt, m1_le, nI_lt_m1, nI_le_m1, ix_nI, dT_le, dF_le, dT_lt, dF_lt, dT_eq, dF_eq, iT, iF, grd_t, lt1_s, bn1_s, bn2_s, bn3_s, bn4_s, bn5_s, nI_add0, h62, hne]
def PmI (P : PSt) (s : RSt) (f g i : Nat) (q : Int32 × Int32 × RSt) : Prop := q.1 = itr P (nI f) (1 + i) ∧ ∃ p : Nat → Bool, q.2.1 = nI (cnt p 20) ∧ (∀ t, t < 20 → (p t = true ↔ (∃ j, j < i ∧ itr P (nI f) (1 + j) = nI t) ∧ P 3 t = nI g)) ∧ (∀ j, (j < 62 ∨ 82 ≤ j) → q.2.2 j = s j) ∧ (∀ t, t < 20 → q.2.2 (62 + t) = if p t then nI f else s (62 + t))
theorem m_prom52 (hI : Inv P) (hS : Sim P s) {f g : Nat} (hf : f < 20) (hg : g < 20) (hF : isF P f) : ∃ (c : Nat) (r : RSt) (p : Nat → Bool), xX8_promote_52 600 (nI f) (nI g) 0 (P 2 f) s = some (nI c, r) ∧ cnt p 20 = c ∧ (∀ t, t < 20 → (p t = true ↔ (∃ j, itr P (nI f) (1 + j) = nI t) ∧ P 3 t = nI g)) ∧ (∀ j, (j < 62 ∨ 82 ≤ j) → r j = s j) ∧ (∀ t, t < 20 → r (62 + t) = if p t then nI f else s (62 + t)) := by
  have hI2 := hI
  obtain ⟨w1, w2, w3, w4, w5, w6, w7, w8, w9, w10, w11, w12, w13, w14⟩ := hI2
  have hsh := ch_short w6 hf (Or.inl hF)
  obtain ⟨E, hE, hEl⟩ := pk_least (fun E => itr P (nI f) (1 + E) = m1) ⟨20, ch_end hsh _ (by omega)⟩
  have hE19 : E ≤ 19 := by
    rcases Nat.lt_or_ge 19 E with h | h
    · exact absurd (ch_end hsh (1 + 19) (by omega)) (hEl 19 h)
    · exact h
  have e1 : P 2 f = itr P (nI f) (1 + 0) := (ch_next (P := P) (x := nI f) (i := 0) hf rfl).symm
  have hloop := loopI (fun m i (q : Int32 × Int32 × RSt) => xX8_promote_52 m (nI f) (nI g) q.2.1 q.1 q.2.2) (PmI P s f g) E (fun m i q hi hq => by
    obtain ⟨at0, mv, r⟩ := q
    obtain ⟨b1, p, b2, hp, hr, h3⟩ := hq
    dsimp only at b1 b2 hr h3
    obtain ⟨t, ht, et, hts⟩ : ∃ t, t < 20 ∧ itr P (nI f) (1 + i) = nI t ∧ isS P t := by
      have := ch_snap w6 hf i
      rw [show i + 1 = 1 + i by omega] at this
      rcases this with z | z
      · exact absurd z (hEl i hi)
      · exact z
    rw [et] at b1
    subst b1
    have hpt : p t = false := by
      cases hpt : p t with
      | false => rfl
      | true =>
        obtain ⟨⟨j, hj, ej⟩, -⟩ := (hp t ht).mp hpt
        have := ch_inj w6 hf (i := j) (j := i) ht (by rw [show j + 1 = 1 + j by omega]; exact ej) (by rw [show i + 1 = 1 + i by omega]; exact et)
        omega
    have sx := hS.2.2.1 t ht (sN (Or.inr hts))
    have o3 : r (62 + t) = P 3 t := by rw [h3 t ht, hpt]; exact sx.2.2.1
    have o2 : r (42 + t) = P 2 t := by rw [hr _ (by omega)]; exact sx.2.1
    have nx : itr P (nI f) (1 + (i + 1)) = P 2 t := by
      rw [show 1 + (i + 1) = 1 + i + 1 by omega, ch_next ht et]
    show ∃ q' : Int32 × Int32 × RSt, xX8_promote_52 (m + 1) (nI f) (nI g) mv (nI t) r = xX8_promote_52 m (nI f) (nI g) q'.2.1 q'.1 q'.2.2 ∧ PmI P s f g (i + 1) q'
    have op : xX8_promote_52 (m + 1) (nI f) (nI g) mv (nI t) r = if P 3 t = nI g then xX8_promote_52 m (nI f) (nI g) (mv + 1) (P 2 t) (upd r (62 + t) (nI f)) else xX8_promote_52 m (nI f) (nI g) mv (P 2 t) r := by
      have u42 : upd r (62 + t) (nI f) (42 + t) = P 2 t := by rw [upd_ne (by omega)]; exact o2
      simp only [xX8_promote_52]
      simp (disch := omega) only [L0, L1, L2, L3, L4, L5, L8, L9, L10, L11, L12, L19, L20, L22, L40, L42, L60, L62, L82, L95, L96, L100, L102, L122, L240, L256, L362, L458, L554, L1000000000, L100000, Lm1, nI_addE, nI_mulE, nI_inj, nI_ltE, nI_leE, nI_clE, nI_m1, m1_nI, m1_lt, m1_le, nI_lt_m1, nI_le_m1, ix_nI, dT_le, dF_le, dT_lt, dF_lt, dT_eq, dF_eq, iT, iF, grd_t, lt1_s, bn1_s, bn2_s, bn3_s, bn4_s, bn5_s, nI_add0, o3, u42, o2]
    rw [op]
    by_cases ho : P 3 t = nI g
    · rw [if_pos ho]
      refine ⟨(P 2 t, mv + 1, upd r (62 + t) (nI f)), rfl, nx.symm, fun c => p c || decide (c = t), ?_, fun c hc => ?_, fun j hj => ?_, fun c hc => ?_⟩
      · show mv + 1 = _
        rw [b2, cnt_add1 (p := fun c => p c || decide (c = t)) (q := p) ht (fun c hc hne => by simp [hne]) (by simp) hpt]
        exact nI_1 _
      · rw [Bool.or_eq_true, hp c hc, decide_eq_true_eq]
        constructor
        · rintro (⟨⟨j, hj, ej⟩, o⟩ | z)
          · exact ⟨⟨j, by omega, ej⟩, o⟩
          · subst z; exact ⟨⟨i, by omega, et⟩, ho⟩
        · rintro ⟨⟨j, hj, ej⟩, o⟩
          rcases Nat.lt_or_ge j i with y | y
          · exact Or.inl ⟨⟨j, y, ej⟩, o⟩
          · have : j = i := by omega
            subst this
            exact Or.inr (nI_lt_inj (by omega) (by omega) (ej.symm.trans et))
      · show upd r (62 + t) (nI f) j = _
        rw [upd_ne (by omega)]; exact hr j hj
      · show upd r (62 + t) (nI f) (62 + c) = _
        by_cases hc2 : c = t
        · subst hc2; rw [upd_eq]; simp
        · rw [upd_ne (by omega), h3 c hc]; simp [hc2]
    · rw [if_neg ho]
      refine ⟨(P 2 t, mv, r), rfl, nx.symm, p, b2, fun c hc => ?_, hr, h3⟩
      rw [hp c hc]
      constructor
      · rintro ⟨⟨j, hj, ej⟩, o⟩
        exact ⟨⟨j, by omega, ej⟩, o⟩
      · rintro ⟨⟨j, hj, ej⟩, o⟩
        rcases Nat.lt_or_ge j i with y | y
        · exact ⟨⟨j, y, ej⟩, o⟩
        · have : j = i := by omega
          subst this
          have := nI_lt_inj (by omega) (by omega) (ej.symm.trans et)
          subst this
          exact absurd o ho) E 600 0 (itr P (nI f) (1 + 0), 0, s) (by omega) (by omega) ⟨rfl, fun _ => false, (by rw [cnt_zero.mpr (fun _ _ => rfl)]; rfl), fun t ht => ⟨fun z => (by cases z), fun ⟨⟨j, hj, _⟩, _⟩ => (by omega)⟩, fun _ _ => rfl, fun _ _ => rfl⟩
  obtain ⟨m, ⟨at0, mv, r⟩, e, b1, p, b2, hp, hr, h3⟩ := hloop
  dsimp only at b1 b2 hr h3 e
  refine ⟨cnt p 20, r, p, ?_, rfl, fun t ht => ?_, hr, h3⟩
  · rw [e1]
    refine e.trans ?_
    rw [b1, hE, b2, xX8_promote_52, if_pos rfl]
  · rw [hp t ht]
    constructor
    · rintro ⟨⟨j, hj, ej⟩, o⟩
      exact ⟨⟨j, ej⟩, o⟩
    · rintro ⟨⟨j, ej⟩, o⟩
      refine ⟨⟨j, ?_, ej⟩, o⟩
      rcases Nat.lt_or_ge j E with y | y
      · exact y
      · rw [ch_end hE (1 + j) (by omega)] at ej
        exact absurd ej.symm (nI_ne_m1 (by omega))
theorem p_promote (h : Good P s n) (x : Int32) : ∃ r P' s', xX0_promoteFiles P x = some (r, P') ∧ xX8_promote s x = some (r, s') ∧ Good P' s' (n + 1) := by
  have hg := h.up (Nat.le_succ n)
  obtain ⟨hI, hS, ht⟩ := h
  have hW := hI.w
  unfold xX0_promoteFiles xX8_promote
  rw [c_refA, bn1_s, m_asked hS, bn1_s]
  by_cases hr : refA P x 0 = 0
  · obtain ⟨f, hf, rfl, hk2, hu⟩ := refA_ok hr
    have hF := isF_of hu
    obtain ⟨o1, o2, o3, o4⟩ := own_pref hW hf hF
    have e42 := (hS.2.2.1 f hf hk2).2.1
    have a42 : (42 : Int32) + nI f = nI (42 + f) := nI_addE 42 f
    rw [if_pos hr, if_pos hr, c_originOf hW hf hF, bn1_s, m_originOf hS hW hf hF, bn1_s]
    rcases ch_snap hW.2.2.2.2.2.1 hf (owc P (nI f)) with z | ⟨O, hO, eO, sO⟩
    · rw [z, if_pos (show m1 = -1 from rfl), if_pos (show m1 = -1 from rfl)]
      exact ⟨-3, P, s, rfl, rfl, hg⟩
    · have hOm : ¬ nI O = (-1 : Int32) := nI_ne_m1 (by omega)
      obtain ⟨g, hg2, og, gF, -⟩ := hW.2.2.2.2.1 O hO sO
      have hfg : f ≠ g := fun z => o2 O hO eO (z ▸ og)
      have a62 : (62 : Int32) + nI O = nI (62 + O) := nI_addE 62 O
      have e62 := (hS.2.2.1 O hO (sN (Or.inr sO))).2.2.1
      rw [eO, if_neg hOm, if_neg hOm, c_ownerOf, bn1_s, rd_nI (by decide) hO, og, a62, ix_nI (by omega) (by omega), grd_t, a42, ix_nI (by omega) (by omega), grd_t, nI_clE (by omega), nI_clE (by omega), e62, og, e42]
      obtain ⟨c, R, p, e1, hc, hp, hR, h3⟩ := c_prom49 (A := owc P (nI f)) hI hf hg2 hF hfg
      obtain ⟨c2, r, p2, e2, hc2, hp2, hr2, h32⟩ := m_prom52 hI hS hf hg2 hF
      rw [eO] at e1
      have hp3 : ∀ t, t < 20 → (p t = true ↔ (∃ j, itr P (nI f) (j + 1) = nI t) ∧ P 3 t = nI g) := by
        intro t ht2
        rw [hp t ht2]
        constructor
        · rintro ⟨⟨j, ej⟩, o⟩
          exact ⟨⟨owc P (nI f) + j, by rw [show owc P (nI f) + j + 1 = owc P (nI f) + 1 + j by omega]; exact ej⟩, o⟩
        · rintro ⟨⟨j, ej⟩, o⟩
          refine ⟨⟨j - owc P (nI f), ?_⟩, o⟩
          rcases Nat.lt_or_ge j (owc P (nI f)) with y | y
          · obtain ⟨x2, hx2, ex2, ox2, -⟩ := o1 j y
            have := nI_lt_inj (by omega) (by omega) (ex2.symm.trans ej)
            subst this
            exact absurd (nI_lt_inj (by omega) (by omega) (ox2.symm.trans o)) hfg
          · rw [show owc P (nI f) + 1 + (j - owc P (nI f)) = j + 1 by omega]; exact ej
      have hpp : ∀ t, t < 20 → p t = p2 t := by
        intro t ht2
        have q1 := hp3 t ht2
        have q2 := hp2 t ht2
        have q3 : (∃ j, itr P (nI f) (j + 1) = nI t) ↔ (∃ j, itr P (nI f) (1 + j) = nI t) := by simp only [Nat.add_comm]
        rw [q3, ← q2] at q1
        cases y1 : p t <;> cases y2 : p2 t <;> simp [y1, y2] at q1 <;> rfl
      have hcc : c2 = c := by rw [← hc, ← hc2]; exact (cnt_cong hpp).symm
      have hWR := W_prom hW hf hg2 hO hF hfg eO og (fun j hj => by
        obtain ⟨x2, hx2, ex2, ox2, -⟩ := o1 j hj
        exact ⟨x2, hx2, ex2, ox2⟩) p hp3 hR h3
      have hIR := (held_inv hWR (held_mono hI (fun b hb z => Or.inl (by unfold sz1 at *; rw [hR 7 (by decide)] at z; exact z)) (fun t k b ht2 hk hb hh => ⟨t, k, ht2, hk, by unfold hl at *; rw [hR 6 (by decide)]; exact hh⟩))).1
      refine ⟨nI c, R, r, e1, by rw [e2, hcc], hIR, ?_, ?_⟩
      · obtain ⟨h1, h2, h4, h5, h6, h7⟩ := hS
        have eh : ∀ t, hs R t ↔ hs P t := fun t => by unfold hs isF isS; rw [hR 0 (by decide)]
        refine ⟨⟨?_, ?_⟩, fun t ht2 => ?_, fun t ht2 hh => ?_, fun t k ht2 hk hh => ?_, fun b hb => ?_, fun b hb hh => ?_⟩
        · rw [hr2 _ (by omega), hR 9 (by decide)]; exact h1.1
        · rw [hr2 _ (by omega), hR 10 (by decide)]; exact h1.2
        · rw [hr2 _ (by omega), hR 0 (by decide)]; exact h2 t ht2
        · rw [hR 0 (by decide)] at hh
          have q := h4 t ht2 hh
          rw [hr2 (22 + t) (by omega), hr2 (42 + t) (by omega), hr2 (82 + t) (by omega), hr2 (102 + t) (by omega), hR 1 (by decide), hR 2 (by decide), hR 4 (by decide), hR 5 (by decide), h32 t ht2, h3 t ht2, hpp t ht2, q.2.2.1]
          exact ⟨q.1, q.2.1, rfl, q.2.2.2⟩
        · rw [hr2 _ (by omega), hR 6 (by decide)]; exact h5 t k ht2 hk ((eh t).mp hh)
        · rw [hr2 _ (by omega), hR 7 (by decide)]; exact h6 b hb
        · rw [hR 7 (by decide)] at hh
          rw [hr2 _ (by omega), hR 8 (by decide)]; exact h7 b hb hh
      · unfold tm at *
        rw [hR 9 (by decide)]; omega
  · rw [if_neg hr, if_neg hr]
    exact ⟨refA P x 0, P, s, rfl, rfl, hg⟩
end
