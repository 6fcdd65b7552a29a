/-! ===== sheets: apply ===== -/
theorem i64_le (a b : Int64) : (a ≤ b) ↔ a.toInt ≤ b.toInt := Int64.le_iff_toInt_le
theorem i64_lt (a b : Int64) : (a < b) ↔ a.toInt < b.toInt := Int64.lt_iff_toInt_lt
theorem i64_32 {a : Int64} (h0 : 0 ≤ a.toInt) (h1 : a.toInt ≤ 1000000000) : (Int64.toInt32 a).toInt = a.toInt := by
  rw [Int64.toInt_toInt32]
  rw [Int.bmod_def]
  split <;> omega
theorem i64_nI {a : Int64} {n : Nat} (hn : n ≤ 1000) (h0 : 0 ≤ a.toInt) (h1 : a.toInt < n) : ∃ k, k < n ∧ Int64.toInt32 a = nI k := by
  refine ⟨a.toInt.toNat, by omega, ?_⟩
  refine Int32.toInt_inj.mp ?_
  rw [i64_32 h0 (by omega), nI_toInt (by omega)]
  omega
section
variable {P : PSt} {s : RSt} {n : Nat}
variable {SO LE : RSt} {RO : Nat → Nat → Int64} {qs qz : RSt} {it : Nat → Int64}
theorem keepE (hI : Inv P) {f k : Nat} (hf : f < 20) (hk : k < 12) (hF : isF P f) {r : Int32} {P' : PSt} (h : xX0_emptySlot P (nI f) (nI k) = some (r, P')) : P' 0 = P 0 := by
  obtain ⟨m, Q, e, hG, -⟩ := E_slot hI hf hk hF
  have e2 := Option.some.inj (e.symm.trans h)
  have e3 : Q = P' := congrArg Prod.snd e2
  rw [← e3, GC_rows hG (by omega), st_row (by decide)]
theorem keep59 (hI : Inv P) {f k : Nat} (hf : f < 20) (hk : k < 12) (hF : isF P f) {v : Int32} (hv : 1 ≤ v.toInt ∧ v.toInt ≤ 1000000000) {r : Int32} {P' : PSt} (h : xX0_fillSlot_59 (nI f) (nI k) v P = some (r, P')) : P' 0 = P 0 := by
  have hfill := c_fill59 hI hf hk hF hv rfl
  by_cases h96 : fst1 (fun j => decide (P 7 j = 0)) 96 < 96
  · obtain ⟨m, Q, e, hG, -⟩ := hfill.1 h96
    have e3 : Q = P' := congrArg Prod.snd (Option.some.inj (e.symm.trans h))
    rw [← e3, GC_rows hG (by omega), fil_row (by omega)]
  · have e3 : P = P' := congrArg Prod.snd (Option.some.inj ((hfill.2 h96).symm.trans h))
    rw [← e3]
theorem keepF (hI : Inv P) {f k : Nat} (hf : f < 20) (hk : k < 12) (hF : isF P f) {v : Int32} (hv : 1 ≤ v.toInt ∧ v.toInt ≤ 1000000000) {r : Int32} {P' : PSt} (h : xX0_fillSlot P (nI f) (nI k) v = some (r, P')) : P' 0 = P 0 := by
  unfold xX0_fillSlot at h
  rw [c_quotaOf, bn1_s, rd_nI (by decide) hf, c_space hf, bn1_s, c_blockIn, bn1_s, bi_nI hf hk, c_sizeOf, bn1_s] at h
  split at h
  · exact keep59 hI hf hk hF hv h
  · split at h
    · exact keep59 hI hf hk hF hv h
    · have e3 : P = P' := congrArg Prod.snd (Option.some.inj h)
      rw [← e3]
theorem q_pair (hI : Inv P) (hS : Sim P s) {f : Nat} (hf : f < 20) (hF : isF P f) (hd : RSt) (a b : Int64) : ∃ r P' s' hd', xX0_carryPair P (nI f) a b = some (r, P') ∧ xX8_isApplied s hd (nI f) a b = some (r, s', hd') ∧ Inv P' ∧ Sim P' s' ∧ tm P' = tm P ∧ P' 0 = P 0 := by
  have z0 : (0 : Int64).toInt = 0 := by decide
  have z11 : (11 : Int64).toInt = 11 := by decide
  have z12 : (12 : Int64).toInt = 12 := by decide
  have zb : (1000000000 : Int64).toInt = 1000000000 := by decide
  unfold xX0_carryPair xX8_isApplied
  by_cases a0 : lg_cmp a 0 < 0
  · rw [if_pos a0, if_pos a0]
    exact ⟨_, _, _, _, rfl, rfl, hI, hS, rfl, rfl⟩
  rw [if_neg a0, if_neg a0]
  have h12 : ((0 : Int32) ≤ lg_cmp a 12) ↔ ((0 : Int32) < lg_cmp a 11) := by
    rw [lg_cmp_ge, lg_cmp_gt, i64_le, i64_lt, z11, z12]
    omega
  by_cases a1 : (0 : Int32) ≤ lg_cmp a 12
  · rw [if_pos a1, if_pos (h12.mp a1)]
    exact ⟨_, _, _, _, rfl, rfl, hI, hS, rfl, rfl⟩
  rw [if_neg a1, if_neg (fun w => a1 (h12.mpr w))]
  rw [lg_cmp_lt, i64_lt, z0] at a0
  rw [lg_cmp_ge, i64_le, z12] at a1
  obtain ⟨k, hk, ek⟩ := i64_nI (a := a) (n := 12) (by omega) (by omega) (by omega)
  rw [ek]
  by_cases b0 : lg_cmp b 0 < 0
  · rw [if_pos b0, if_pos b0]
    exact ⟨_, _, _, _, rfl, rfl, hI, hS, rfl, rfl⟩
  rw [if_neg b0, if_neg b0]
  by_cases b1 : lg_cmp b 1000000000 ≤ 0
  · rw [if_pos b1, if_pos b1]
    by_cases b2 : lg_cmp b 0 = 0
    · rw [if_pos b2, if_pos b2]
      obtain ⟨m, P', s', hd', e1, e2, hI', hS', et⟩ := p_empty hI hS hf hk hF hd
      have e0 := keepE hI hf hk hF e1
      rw [e1, bn2_s, e2, bn3_s]
      exact ⟨_, _, _, _, rfl, rfl, hI', hS', et, e0⟩
    · rw [if_neg b2, if_neg b2]
      rw [lg_cmp_lt, i64_lt, z0] at b0
      rw [lg_cmp_le, i64_le, zb] at b1
      rw [lg_cmp_eq, ← Int64.toInt_inj, z0] at b2
      have ev := i64_32 (a := b) (by omega) (by omega)
      obtain ⟨r, P', s', hd', e1, e2, hr, hI', hS', et⟩ := p_fill hI hS hf hk hF (v := Int64.toInt32 b) ⟨by omega, by omega⟩ hd
      have e0 := keepF hI hf hk hF ⟨by omega, by omega⟩ e1
      rw [e1, bn2_s, e2, bn3_s]
      rcases hr with hr | ⟨N, hN, hr⟩
      · rw [if_pos hr, if_pos (by rw [hr]; decide)]
        exact ⟨_, _, _, _, rfl, rfl, hI', hS', et, e0⟩
      · rw [hr, if_neg (nI_ne4 (by omega)), if_neg (nI_pos (by omega))]
        exact ⟨_, _, _, _, rfl, rfl, hI', hS', et, e0⟩
  · rw [if_neg b1, if_neg b1]
    exact ⟨_, _, _, _, rfl, rfl, hI, hS, rfl, rfl⟩
theorem nI_half {k : Nat} (hk : k ≤ 40) : nI k - nI k / 2 * 2 = nI (k % 2) := by
  have : ∀ k, k < 41 → nI k - nI k / 2 * 2 = nI (k % 2) := by decide +kernel
  exact this k (by omega)
theorem c_at {k j : Nat} {ro : Nat → Int64} (hk : k ≤ 40) (hj : j < k) : xX5_at (nI k) ro (nI j) = some (ro j) := by
  obtain ⟨g1, -⟩ := has_k hk (nI j)
  have z : (0 : Int32) ≤ nI j ∧ nI j ≤ nI k - 1 := by
    have e : nI k - 1 = nI (k - 1) := nI_subE (a := k) (b := 1) (by omega)
    rw [e]
    exact in_k (by omega) (by omega)
  unfold xX5_at
  rw [g1, if_pos z, bn1_s, if_neg one_ne, ix_nI (by omega) (by omega), grd_t, nI_clE (by omega)]
theorem q_carry {f i k : Nat} (hf : f < 20) (hi : i < 4) (hk : k ≤ 40) (eq : qz i = nI k) {ro : Nat → Int64} (hr : ∀ j, j < k → ro j = it (40 * i + j)) : ∀ (d j m : Nat) (P : PSt) (s hd : RSt) (c : Int32), 2 * j + 2 * d ≤ k → k ≤ 2 * j + 1 + 2 * d → d < m → Inv P → Sim P s → isF P f → ∃ r P' s' hd', xX0_carryOver_11 (nI k) ro m (nI f) (nI k) c (nI (2 * j)) P = some (r, P') ∧ xX8_apply_77 qs qz it m (nI f) (nI i) c (nI (2 * j)) s hd = some (r, s', hd') ∧ Inv P' ∧ Sim P' s' ∧ tm P' = tm P := by
  intro d
  induction d with
  | zero =>
    intro j m P s hd c h0 h1 h2 hI hS hF
    obtain ⟨m', rfl⟩ : ∃ m', m = m' + 1 := ⟨m - 1, by omega⟩
    have hc : nI k ≤ nI (2 * j) + 1 := by
      rw [show nI (2 * j) + 1 = nI (2 * j + 1) from nI_succE _, nI_leE (by omega) (by omega)]
      omega
    rw [xX0_carryOver_11, if_pos hc, xX8_apply_77, ix_nI (by omega) hi, grd_t, grd_t, nI_clE (by omega), eq, if_pos hc, nI_half hk]
    rcases Nat.mod_two_eq_zero_or_one k with e | e
    · rw [e, if_pos (show nI 0 = 0 from rfl), if_neg (show ¬ nI 0 = 1 by decide)]
      exact ⟨_, _, _, _, rfl, rfl, hI, hS, rfl⟩
    · rw [e, if_neg (show ¬ nI 1 = 0 by decide), if_pos (show nI 1 = 1 from rfl)]
      exact ⟨_, _, _, _, rfl, rfl, hI, hS, rfl⟩
  | succ d ih =>
    intro j m P s hd c h0 h1 h2 hI hS hF
    obtain ⟨m', rfl⟩ : ∃ m', m = m' + 1 := ⟨m - 1, by omega⟩
    have es : nI (2 * j) + 1 = nI (2 * j + 1) := nI_succE _
    by_cases hlt : 2 * j + 1 < k
    · have hc : ¬ nI k ≤ nI (2 * j + 1) := by
        rw [nI_leE (by omega) (by omega)]
        omega
      have ea : (40 : Int32) * nI i + nI (2 * j) = nI (40 * i + 2 * j) := by rw [L40, nI_mulE, nI_addE]
      have eb : nI (40 * i + 2 * j) + 1 = nI (40 * i + (2 * j + 1)) := nI_succE _
      have e2 : nI (2 * j) + 2 = nI (2 * (j + 1)) := nI_addE (2 * j) 2
      obtain ⟨r, P', s', hd', e3, e4, hI', hS', et, e0⟩ := q_pair hI hS hf hF hd (ro (2 * j)) (ro (2 * j + 1))
      have hF' : isF P' f := by unfold isF; rw [e0]; exact hF
      rw [xX0_carryOver_11, es, if_neg hc, c_at hk (by omega), bn1_s, c_at hk hlt, bn1_s, e3, bn2_s, xX8_apply_77, ix_nI (by omega) hi, grd_t, nI_clE (by omega), eq, es, if_neg hc, ea, eb, ix_nI (by omega) (by omega), grd_t, ix_nI (by omega) (by omega), grd_t, nI_clE (by omega), nI_clE (by omega), ← hr (2 * j) (by omega), ← hr (2 * j + 1) (by omega), e4, bn3_s, e2]
      by_cases hr0 : r = 0
      · rw [if_pos hr0, if_pos hr0, show c + 0 = c by simp]
        obtain ⟨r2, P2, s2, hd2, g1, g2, g3, g4, g5⟩ := ih (j + 1) m' P' s' hd' c (by omega) (by omega) (by omega) hI' hS' hF'
        exact ⟨r2, P2, s2, hd2, g1, g2, g3, g4, g5.trans et⟩
      · rw [if_neg hr0, if_neg hr0]
        obtain ⟨r2, P2, s2, hd2, g1, g2, g3, g4, g5⟩ := ih (j + 1) m' P' s' hd' (c + 1) (by omega) (by omega) (by omega) hI' hS' hF'
        exact ⟨r2, P2, s2, hd2, g1, g2, g3, g4, g5.trans et⟩
    · exfalso
      omega
theorem c_apply47 {i : Nat} {x1 : Int32} (hi : i < 4) : xX7_apply_47 SO LE RO x1 (nI i) 0 P = xX0_carryOver (LE i) (RO i) P x1 := by
  have h4 : ix (nI i) 4 = true := ix_nI (by omega) hi
  have hb : ∀ q : Option (Int32 × PSt), bn2 q (fun v P => some (v, P)) = q := fun q => bn2_id q
  rcases (show i = 0 ∨ i = 1 ∨ i = 2 ∨ i = 3 by omega) with h | h | h | h <;> (subst h; simp only [xX7_apply_47, if_true, h4, hb, bn1_s, grd_t, lt1_s, dl10, d10, d20, d30, d21, d31, d32, d00, d11, d22, iT, iF])
theorem c_applyS {i : Nat} {x1 x3 : Int32} (hi : i < 4) : (grd (ix (nI i) 4) (if nI i = 0 then bn1 (xX5_refusalAsSort (SO 0) x3) (fun v30 => xX7_apply_47 SO LE RO x1 (nI i) v30 P) else if nI i = 1 then bn1 (xX5_refusalAsSort (SO 1) x3) (fun v34 => xX7_apply_47 SO LE RO x1 (nI i) v34 P) else if nI i = 2 then bn1 (xX5_refusalAsSort (SO 2) x3) (fun v38 => xX7_apply_47 SO LE RO x1 (nI i) v38 P) else bn1 (xX5_refusalAsSort (SO 3) x3) (fun v42 => xX7_apply_47 SO LE RO x1 (nI i) v42 P))) = bn1 (xX5_refusalAsSort (SO i) x3) (fun v => xX7_apply_47 SO LE RO x1 (nI i) v P) := by
  have h4 : ix (nI i) 4 = true := ix_nI (by omega) hi
  rcases (show i = 0 ∨ i = 1 ∨ i = 2 ∨ i = 3 by omega) with h | h | h | h <;> (subst h; simp only [h4, bn1_s, grd_t, lt1_s, dl10, d10, d20, d30, d21, d31, d32, d00, d11, d22, iT, iF])
theorem q_apply (h : Good P s n) (hR : ShR SO LE RO qs qz it) (hd : RSt) (x y z : Int32) : ∃ r P' s' hd', xX7_apply SO LE RO P x y z = some (r, P') ∧ xX8_apply qs qz it s hd x y z = some (r, s', hd') ∧ Good P' s' (n + 1) := by
  have hg := h.up (Nat.le_succ n)
  obtain ⟨hI, hS, htm⟩ := h
  unfold xX7_apply xX8_apply
  rw [m_isSheet]
  rcases arg_ix y (n := 4) (by decide) with hy | ⟨i, hi, rfl⟩
  · rw [c_isSheetN hy, bn1_s, bn1_s, if_pos zero_eq, if_pos zero_eq]
    exact ⟨_, _, _, hd, rfl, rfl, hg⟩
  rw [c_isSheet hi, bn1_s, bn1_s, if_neg one_ne, if_neg one_ne, c_in, m_in, bn1_s, ite10]
  by_cases hz : (0 : Int32) ≤ z ∧ z ≤ 1
  · rw [if_pos hz, if_pos hz, c_refA, bn1_s, m_asked hS, bn1_s]
    by_cases hr : refA P x 0 = 0
    · rw [if_pos hr, if_pos hr, c_applyS hi]
      obtain ⟨f, hf, rfl, hkf, hu⟩ := refA_ok hr
      obtain ⟨eS, eL, hso, k, hk, ek, hk0, hro⟩ := hR i hi
      rw [ix_nI (by omega) hi, grd_t, grd_t, nI_clE (by omega), ← eS]
      unfold xX5_refusalAsSort xX5_isMissing xX8_apply_58
      rw [ix_nI (by omega) hi, grd_t, nI_clE (by omega), ← eS]
      by_cases hm : SO i = -1
      · rw [if_pos hm, if_pos hm, if_pos hm, bn1_s, if_neg one_ne, bn1_s]
        unfold xX7_apply_47
        rw [if_neg (show ¬ (-11 : Int32) = 0 by decide)]
        exact ⟨_, _, _, _, rfl, rfl, hg⟩
      · rw [if_neg hm, if_neg hm, bn1_s, if_pos zero_eq]
        by_cases hsz : SO i = z
        · rw [if_pos hsz, if_pos hsz, if_neg hm, bn1_s, c_apply47 hi]
          unfold xX0_carryOver xX5_size
          rw [bn1_s, ek]
          obtain ⟨r, P', s', hd', e1, e2, hI', hS', et⟩ := q_carry (qs := qs) (it := it) hf hi hk (eL.symm.trans ek) hro (k / 2) 0 600 P s hd 0 (by omega) (by omega) (by omega) hI hS (isF_of hu)
          exact ⟨r, P', s', hd', e1, e2, hI', hS', by omega⟩
        · rw [if_neg hsz, if_neg hsz, bn1_s]
          unfold xX7_apply_47
          rw [if_neg (show ¬ (-13 : Int32) = 0 by decide)]
          exact ⟨_, _, _, _, rfl, rfl, hg⟩
    · rw [if_neg hr, if_neg hr]
      unfold xX7_apply_47
      rw [if_neg hr]
      exact ⟨_, _, _, _, rfl, rfl, hg⟩
  · rw [if_neg hz, if_neg hz]
    exact ⟨_, _, _, _, rfl, rfl, hg⟩
end
