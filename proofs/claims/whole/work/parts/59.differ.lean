/-! ===== sheets: differ ===== -/
theorem c_append {k : Nat} {ro : Nat → Int64} {v : Int64} (hk : k < 40) : xX5_append 1 (nI k) ro v = some (nI (k + 1), vp_updL ro k v) := by
  have e : nI (k + 1) - 1 = nI k := by
    have := nI_subE (a := k + 1) (b := 1) (by omega)
    rw [Nat.add_sub_cancel] at this
    exact this
  unfold xX5_append xX5_put
  rw [if_neg (show ¬ (40 : Int32) ≤ nI k by rw [L40, nI_leE (by omega) (by omega)]; omega), lt1_s, show nI k + 1 = nI (k + 1) from nI_succE k, e, if_neg (nI_pos (by omega)), if_neg (by rw [nI_leE (by omega) (by omega)]; omega), if_pos (show nI k < 40 by rw [L40, nI_ltE (by omega) (by omega)]; exact hk), if_neg one_ne, ix_nI (by omega) hk, grd_t, lt1_s, nI_clE (by omega), bn2_s]
section
variable {P : PSt} {s : RSt} {n : Nat}
variable {SO LE : RSt} {RO : Nat → Nat → Int64} {qs qz : RSt} {it : Nat → Int64}
def DfI (it : Nat → Int64) (sh i : Nat) (q : Int32 × (Nat → Int64) × (Nat → Int64)) : Prop := ∃ k, k ≤ 2 * i ∧ q.1 = nI k ∧ (∀ j, j < k → q.2.1 j = q.2.2 (40 * sh + j)) ∧ ∀ j, (j < 40 * sh ∨ 40 * sh + 40 ≤ j) → q.2.2 j = it j
theorem q_differL (hS : Sim P s) (hW : WInv P) {t u sh : Nat} (ht : t < 20) (hu : u < 20) (hsh : sh < 4) (hst : hs P t) (hsu : hs P u) (ro it : Nat → Int64) (qs qz : RSt) : ∃ (k : Nat) (ro' it' : Nat → Int64), k ≤ 24 ∧ xX6_writeDifference_9 P 600 (nI t) (nI u) 0 1 0 ro = some (nI k, 1, nI k, ro') ∧ xX8_differ_55 s 600 (nI sh) (nI t) (nI u) 0 0 qs qz it = some (nI k, qs, upd qz sh (nI k), it') ∧ (∀ j, j < k → ro' j = it' (40 * sh + j)) ∧ ∀ j, (j < 40 * sh ∨ 40 * sh + 40 ≤ j) → it' j = it j := by
  have h := loopI (fun m i (q : Int32 × (Nat → Int64) × (Nat → Int64)) => (xX6_writeDifference_9 P m (nI t) (nI u) (nI i) 1 q.1 q.2.1, xX8_differ_55 s m (nI sh) (nI t) (nI u) q.1 (nI i) qs qz q.2.2)) (DfI it sh) 12 (fun m i q hi hI => by
    obtain ⟨k, hk, ek, h1, h2⟩ := hI
    obtain ⟨q1, q2, q3⟩ := q
    have ek' : q1 = nI k := ek
    subst ek'
    have at1 := hS.2.2.2.1 t i ht hi hst
    have au1 := hS.2.2.2.1 u i hu hi hsu
    have et : (122 : Int32) + 12 * nI t + nI i = nI (122 + 12 * t + i) := by rw [L122, L12, nI_mulE, nI_addE, nI_addE]
    have eu : (122 : Int32) + 12 * nI u + nI i = nI (122 + 12 * u + i) := by rw [L122, L12, nI_mulE, nI_addE, nI_addE]
    have ei : nI i + 1 = nI (i + 1) := nI_succE i
    have hc : ¬ (12 : Int32) ≤ nI i := by rw [L12, nI_leE (by omega) (by omega)]; omega
    by_cases e : P 6 (u * 12 + i) = P 6 (t * 12 + i)
    · refine ⟨(nI k, q2, q3), ?_, k, by omega, rfl, h1, h2⟩
      show (xX6_writeDifference_9 P (m + 1) (nI t) (nI u) (nI i) 1 (nI k) q2, xX8_differ_55 s (m + 1) (nI sh) (nI t) (nI u) (nI k) (nI i) qs qz q3) = (xX6_writeDifference_9 P m (nI t) (nI u) (nI (i + 1)) 1 (nI k) q2, xX8_differ_55 s m (nI sh) (nI t) (nI u) (nI k) (nI (i + 1)) qs qz q3)
      rw [xX6_writeDifference_9, xX8_differ_55, if_neg hc, if_neg hc, c_blockIn, bn1_s, c_blockIn, bn1_s, bi_nI hu hi, bi_nI ht hi, if_pos e, et, eu, ix_nI (by omega) (by omega), grd_t, ix_nI (by omega) (by omega), grd_t, nI_clE (by omega), nI_clE (by omega), at1, au1, if_pos e.symm, ei]
    · have ea : (40 : Int32) * nI sh + nI k = nI (40 * sh + k) := by rw [L40, nI_mulE, nI_addE]
      have eb : nI (40 * sh + k) + 1 = nI (40 * sh + k + 1) := nI_succE _
      have e2 : nI k + 2 = nI (k + 1 + 1) := nI_addE k 2
      refine ⟨(nI (k + 1 + 1), vp_updL (vp_updL q2 k (nI i).toInt64) (k + 1) (szs P u i).toInt64, vp_updL (vp_updL q3 (40 * sh + k) (nI i).toInt64) (40 * sh + k + 1) (szs P u i).toInt64), ?_, k + 1 + 1, by omega, rfl, fun j hj => ?_, fun j hj => ?_⟩
      · show (xX6_writeDifference_9 P (m + 1) (nI t) (nI u) (nI i) 1 (nI k) q2, xX8_differ_55 s (m + 1) (nI sh) (nI t) (nI u) (nI k) (nI i) qs qz q3) = (xX6_writeDifference_9 P m (nI t) (nI u) (nI (i + 1)) 1 (nI (k + 1 + 1)) _, xX8_differ_55 s m (nI sh) (nI t) (nI u) (nI (k + 1 + 1)) (nI (i + 1)) qs qz _)
        rw [xX6_writeDifference_9, xX8_differ_55, if_neg hc, if_neg hc, c_blockIn, bn1_s, c_blockIn, bn1_s, bi_nI hu hi, bi_nI ht hi, if_neg e, et, eu, ix_nI (by omega) (by omega), grd_t, ix_nI (by omega) (by omega), grd_t, nI_clE (by omega), nI_clE (by omega), at1, au1, if_neg (fun z => e z.symm), ei, c_append (by omega), bn2_s, c_sizeOf, bn1_s, c_append (by omega), bn2_s, ea, ix_nI (by omega) (by omega), grd_t, lt1_s, m_sizeIn hS hW hu hi hsu, bn1_s, eb, ix_nI (by omega) (by omega), grd_t, lt1_s, nI_clE (by omega), nI_clE (by omega), e2]
        rfl
      · show vp_updL (vp_updL q2 k (nI i).toInt64) (k + 1) (szs P u i).toInt64 j = vp_updL (vp_updL q3 (40 * sh + k) (nI i).toInt64) (40 * sh + k + 1) (szs P u i).toInt64 (40 * sh + j)
        by_cases j1 : j = k + 1
        · subst j1
          rw [pk_uLs, show 40 * sh + (k + 1) = 40 * sh + k + 1 by omega, pk_uLs]
        · rw [pk_uLn j1, pk_uLn (show 40 * sh + j ≠ 40 * sh + k + 1 by omega)]
          by_cases j2 : j = k
          · subst j2
            rw [pk_uLs, pk_uLs]
          · rw [pk_uLn j2, pk_uLn (show 40 * sh + j ≠ 40 * sh + k by omega)]
            exact h1 j (by omega)
      · show vp_updL (vp_updL q3 (40 * sh + k) (nI i).toInt64) (40 * sh + k + 1) (szs P u i).toInt64 j = it j
        rw [pk_uLn (by omega), pk_uLn (by omega)]
        exact h2 j hj) 12 600 0 (nI 0, ro, it) (by omega) (by omega) ⟨0, by omega, rfl, fun j hj => by omega, fun j hj => rfl⟩
  obtain ⟨m, q, e, k, hk, ek, h1, h2⟩ := h
  obtain ⟨q1, q2, q3⟩ := q
  have ek' : q1 = nI k := ek
  subst ek'
  have e1 : xX6_writeDifference_9 P 600 (nI t) (nI u) (nI 0) 1 (nI 0) ro = xX6_writeDifference_9 P (m + 1) (nI t) (nI u) (nI 12) 1 (nI k) q2 := congrArg Prod.fst e
  have e2 : xX8_differ_55 s 600 (nI sh) (nI t) (nI u) (nI 0) (nI 0) qs qz it = xX8_differ_55 s (m + 1) (nI sh) (nI t) (nI u) (nI k) (nI 12) qs qz q3 := congrArg Prod.snd e
  have hc : (12 : Int32) ≤ nI 12 := by rw [L12, nI_leE (by omega) (by omega)]; omega
  refine ⟨k, q2, q3, by omega, e1.trans ?_, e2.trans ?_, h1, h2⟩
  · rw [xX6_writeDifference_9, if_pos hc]
    rfl
  · rw [xX8_differ_55, if_pos hc, ix_nI (by omega) hsh, grd_t, lt1_s, nI_clE (by omega)]
theorem c_differ35 {i : Nat} {x2 x3 : Int32} (hi : i < 4) : xX7_differ_35 P (nI i) x2 x3 0 SO LE RO = bn4 (xX6_writeDifference P (SO i) (LE i) (RO i) x2 x3) (fun v a b c => some (v, upd SO i a, upd LE i b, stRL RO i c)) := by
  have h4 : ix (nI i) 4 = true := ix_nI (by omega) hi
  rcases (show i = 0 ∨ i = 1 ∨ i = 2 ∨ i = 3 by omega) with h | h | h | h <;> (subst h; simp only [xX7_differ_35, if_true, h4, bn1_s, grd_t, lt1_s, dl10, d10, d20, d30, d21, d31, d32, d00, d11, d22, iT, iF])
theorem q_differ (h : Good P s n) (hR : ShR SO LE RO qs qz it) (x y z : Int32) : ∃ r SO' LE' RO' qs' qz' it', xX7_differ P SO LE RO x y z = some (r, SO', LE', RO') ∧ xX8_differ s qs qz it x y z = some (r, qs', qz', it') ∧ ShR SO' LE' RO' qs' qz' it' := by
  obtain ⟨hI, hS, -⟩ := h
  have hW := hI.w
  unfold xX7_differ xX8_differ
  rw [m_isSheet]
  rcases arg_ix x (n := 4) (by decide) with hx | ⟨i, hi, rfl⟩
  · rw [c_isSheetN hx, bn1_s, bn1_s, if_pos zero_eq, if_pos zero_eq]
    exact ⟨_, _, _, _, _, _, _, rfl, rfl, hR⟩
  rw [c_isSheet hi, bn1_s, bn1_s, if_neg one_ne, if_neg one_ne, c_refH, bn1_s, m_askedSlots hS hI.1, bn1_s]
  by_cases hy : refH P y = 0
  · rw [if_pos hy, if_pos hy, c_refH, bn1_s, m_askedSlots hS hI.1, bn1_s]
    obtain ⟨t, ht, rfl, hst⟩ := refH_ok hI.1 hy
    by_cases hz : refH P z = 0
    · obtain ⟨u, hu, rfl, hsu⟩ := refH_ok hI.1 hz
      rw [hz, c_differ35 hi]
      unfold xX8_differ_32 xX6_writeDifference
      obtain ⟨it1, e1, h1, h2⟩ := m_makes (qs := qs) (qz := qz) (it := it) hi 1 0
      obtain ⟨ro1, e2, h3⟩ := c_layOut (so := SO i) (le := LE i) (p2 := 1) (ro := RO i) (k := 0) (by omega)
      obtain ⟨k, ro2, it2, hk, e3, e4, h4, h5⟩ := q_differL hS hW ht hu hi hst hsu ro1 it1 (upd qs i 1) (upd qz i 0)
      rw [if_pos zero_eq, e1, bn3_s, show xX5_layOut (SO i) (LE i) (RO i) 1 0 = some (1, nI 0, ro1) from e2, bn3_s, show xX6_writeDifference_9 P 600 (nI t) (nI u) 0 1 (nI 0) ro1 = some (nI k, 1, nI k, ro2) from e3, bn4_s, e4]
      refine ⟨_, _, _, _, _, _, _, rfl, rfl, ?_⟩
      have hN := sh_new hR (i := i) (so := 1) (k := k) (ro := ro2) (it' := it2) (Or.inr (Or.inr rfl)) (by omega) (fun w => absurd w (by decide)) h4 (fun j hj => by rw [h5 j hj, h2 j hj])
      have eq : upd (upd qz i 0) i (nI k) = upd qz i (nI k) := by
        funext a
        by_cases e : a = i
        · subst e; rw [upd_eq, upd_eq]
        · rw [upd_ne e, upd_ne e, upd_ne e]
      rw [eq]
      exact hN
    · unfold xX7_differ_35 xX8_differ_32
      rw [if_neg hz, if_neg hz]
      exact ⟨_, _, _, _, _, _, _, rfl, rfl, hR⟩
  · rw [if_neg hy, if_neg hy]
    unfold xX7_differ_35 xX8_differ_32
    rw [if_neg hy, if_neg hy]
    exact ⟨_, _, _, _, _, _, _, rfl, rfl, hR⟩
end
