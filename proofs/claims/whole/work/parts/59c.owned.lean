/-! ===== the reference's row of owned snapshots is the chain's first part ===== -/
theorem incr_id {c : Nat} (R : Nat → Nat → Prop) (hex : ∀ j, j < c → ∃ v, R j v) (hb : ∀ j v, R j v → v < c) (hinc : ∀ i j a b, i < j → j < c → R i a → R j b → a < b) : ∀ j v, j < c → R j v → v = j := by
  have low : ∀ j v, j < c → R j v → j ≤ v := by
    intro j
    induction j with
    | zero => intro v _ _; omega
    | succ j ih =>
      intro v hj hR
      obtain ⟨w, hw⟩ := hex j (by omega)
      have h1 := ih w (by omega) hw
      have h2 := hinc j (j + 1) w v (by omega) hj hw hR
      omega
  have high : ∀ d j v, j + d + 1 = c → R j v → v ≤ j := by
    intro d
    induction d with
    | zero =>
      intro j v hj hR
      have := hb j v hR
      omega
    | succ d ih =>
      intro j v hj hR
      obtain ⟨w, hw⟩ := hex (j + 1) (by omega)
      have h1 := ih (j + 1) w (by omega) hw
      have h2 := hinc j (j + 1) v w (by omega) (by omega) hR hw
      omega
  intro j v hj hR
  have h1 := low j v hj hR
  have h2 := high (c - 1 - j) j v (by omega) hR
  omega
theorem nI_sub1 (k : Nat) : nI (k + 1) - 1 = nI k := by
  have := nI_subE (a := k + 1) (b := 1) (by omega)
  rw [Nat.add_sub_cancel] at this
  exact this
theorem nI_dec (k : Nat) : nI (k + 1) + (-1) = nI k := (Int32.sub_eq_add_neg _ _).symm.trans (nI_sub1 k)
section
variable {P : PSt} {s : RSt} {n : Nat}
theorem own_md (hW : WInv P) {g : Nat} (hg : g < 20) (hF : isF P g) {t u : Nat} (ht : t < 20) (hu : u < 20) (h1 : P 3 t = nI g) (h2 : P 3 u = nI g) (hne : t ≠ u) : md P t ≠ md P u := by
  obtain ⟨-, -, h3, -⟩ := own_pref hW hg hF
  obtain ⟨i, hi, ei⟩ := h3 t ht h1
  obtain ⟨j, hj, ej⟩ := h3 u hu h2
  have hp := hW.2.2.2.2.2.1
  rcases Nat.lt_trichotomy i j with h | h | h
  · have := ch_lt hp hg h ht hu ei ej
    omega
  · subst h
    exact absurd (nI_lt_inj (by omega) (by omega) (ei.symm.trans ej)) hne
  · have := ch_lt hp hg h hu ht ej ei
    omega
abbrev owb (P : PSt) (f : Nat) : Nat → Bool := fun j => decide (P 3 j = nI f)
/-- while an insertion shifts -/
def ShI (P : PSt) (t w : Nat) (nw : RSt) (k : Nat) (g : RSt) : Prop := k ≤ w ∧ (∀ j, j < k → g j = nw j) ∧ (∀ j, k ≤ j → j < w → g (j + 1) = nw j) ∧ ∀ j a, k ≤ j → j < w → a < 20 → nw j = nI a → md P a < md P t
theorem m_shift (hS : Sim P s) {t w : Nat} (ht : t < 20) (hw : w < 20) (hst : isS P t) {nw : RSt} (hnw : ∀ j, j < w → ∃ u, u < 20 ∧ nw j = nI u ∧ isS P u) (kf : Int32 → Int32 → RSt → Int32 → Option (RSt × Int32)) (x1 ow : Int32) : ∀ (k m : Nat) (g : RSt), k < m → ShI P t w nw k g → ∃ k' g', xX8_looksForOwned_39 s kf m x1 (nI t) (nI k) g ow = xX8_looksForOwned_91 s kf x1 (nI t) (nI k') g' ow ∧ ShI P t w nw k' g' ∧ (k' = 0 ∨ ∃ a, a < 20 ∧ nw (k' - 1) = nI a ∧ md P t ≤ md P a) := by
  intro k
  induction k with
  | zero =>
    intro m g hm hJ
    obtain ⟨m, rfl⟩ : ∃ m', m = m' + 1 := ⟨m - 1, by omega⟩
    refine ⟨0, g, ?_, hJ, Or.inl rfl⟩
    rw [xX8_looksForOwned_39, if_pos (show nI 0 ≤ 0 by decide)]
  | succ k ih =>
    intro m g hm hJ
    obtain ⟨m, rfl⟩ : ∃ m', m = m' + 1 := ⟨m - 1, by omega⟩
    obtain ⟨hk, j1, j2, j3⟩ := hJ
    obtain ⟨a, ha, ea, hsa⟩ := hnw k (by omega)
    have eg : g k = nI a := (j1 k (by omega)).trans ea
    have e1 : nI (k + 1) - 1 = nI k := by
      have := nI_subE (a := k + 1) (b := 1) (by omega)
      rw [Nat.add_sub_cancel] at this
      exact this
    have e2 : (22 : Int32) + nI a = nI (22 + a) := nI_addE 22 a
    have e3 : (22 : Int32) + nI t = nI (22 + t) := nI_addE 22 t
    have e4 : nI (k + 1) + (-1) = nI k := nI_dec k
    have ma := (hS.2.2.1 a ha (sN (Or.inr hsa))).1
    have mt := (hS.2.2.1 t ht (sN (Or.inr hst))).1
    rw [xX8_looksForOwned_39, if_neg (by rw [L0, nI_leE (by omega) (by omega)]; omega), e1, ix_nI (by omega) (by omega), grd_t, nI_clE (by omega), eg, e2, ix_nI (by omega) (by omega), grd_t, e3, ix_nI (by omega) (by omega), grd_t, nI_clE (by omega), nI_clE (by omega), ma, mt, grd_t, ix_nI (by omega) (by omega), grd_t, lt1_s, nI_clE (by omega)]
    by_cases hc : P 1 t ≤ P 1 a
    · rw [if_pos hc]
      rw [Int32.le_iff_toInt_le] at hc
      exact ⟨k + 1, g, rfl, ⟨hk, j1, j2, j3⟩, Or.inr ⟨a, ha, ea, hc⟩⟩
    · rw [if_neg hc, e4]
      rw [Int32.le_iff_toInt_le] at hc
      refine ih m _ (by omega) ⟨by omega, fun j hj => ?_, fun j h1 h2 => ?_, fun j b h1 h2 hb eb => ?_⟩
      · rw [upd_ne (by omega)]
        exact j1 j (by omega)
      · by_cases e : j = k
        · subst e
          rw [upd_eq, ea]
        · rw [upd_ne (by omega)]
          exact j2 j (by omega) h2
      · by_cases e : j = k
        · subst e
          have := nI_lt_inj (by omega) (by omega) (ea.symm.trans eb)
          subst this
          unfold md
          omega
        · exact j3 j b (by omega) h2 hb eb
def OwI (P : PSt) (f T : Nat) (q : RSt × Int32) : Prop := q.2 = nI (cnt (owb P f) T) ∧ (∀ j, j < cnt (owb P f) T → ∃ u, u < T ∧ q.1 j = nI u ∧ P 3 u = nI f) ∧ ∀ i j a b, i < j → j < cnt (owb P f) T → a < 20 → b < 20 → q.1 i = nI a → q.1 j = nI b → md P b < md P a
theorem m_own_step (hS : Sim P s) (hW : WInv P) {f : Nat} (hf : f < 20) (hF : isF P f) (m T : Nat) (q : RSt × Int32) (hT : T < 20) (hI : OwI P f T q) : ∃ q', xX8_looksForOwned_7 s (m + 1) (nI f) (nI T) q.1 q.2 = xX8_looksForOwned_7 s m (nI f) (nI (T + 1)) q'.1 q'.2 ∧ OwI P f (T + 1) q' := by
  obtain ⟨nw, ow⟩ := q
  obtain ⟨h1, h2, h3⟩ := hI
  have h1' : ow = nI (cnt (owb P f) T) := h1
  have h2' : ∀ j, j < cnt (owb P f) T → ∃ u, u < T ∧ nw j = nI u ∧ P 3 u = nI f := h2
  have h3' : ∀ i j a b, i < j → j < cnt (owb P f) T → a < 20 → b < 20 → nw i = nI a → nw j = nI b → md P b < md P a := h3
  have hcl := cnt_le (owb P f) T
  generalize hw : cnt (owb P f) T = w at *
  show ∃ q', xX8_looksForOwned_7 s (m + 1) (nI f) (nI T) nw ow = _ ∧ _
  have eT : nI T + 1 = nI (T + 1) := nI_succE T
  rw [xX8_looksForOwned_7, if_neg (by rw [L20, nI_leE (by omega) (by omega)]; omega), m_isSnapshot hS, bn1_s, ite10, rd_nI (by decide) hT]
  by_cases ho : P 3 T = nI f
  · have hsT : isS P T := own_isS hW.2.2.1 hW.2.2.2.1 hT hf ho
    have e62 : (62 : Int32) + nI T = nI (62 + T) := nI_addE 62 T
    have o62 := (hS.2.2.1 T hT (sN (Or.inr hsT))).2.2.1
    have hcs : cnt (owb P f) (T + 1) = w + 1 := by rw [cnt_s, hw]; simp [owb, ho]
    rw [if_pos (show P 0 T = 2 ∨ P 0 T = 3 from hsT), e62, ix_nI (by omega) (by omega), grd_t, nI_clE (by omega), o62, if_pos ho]
    have hnw : ∀ j, j < w → ∃ u, u < 20 ∧ nw j = nI u ∧ isS P u := by
      intro j hj
      obtain ⟨u, hu, eu, ou⟩ := h2' j hj
      exact ⟨u, by omega, eu, own_isS hW.2.2.1 hW.2.2.2.1 (by omega) hf ou⟩
    obtain ⟨k, g, e, ⟨hk, j1, j2, j3⟩, hend⟩ := m_shift hS hT (w := w) (by omega) hsT hnw (xX8_looksForOwned_7 s m) (nI f) ow w 600 nw (by omega) ⟨Nat.le_refl w, fun j hj => rfl, fun j a b => by omega, fun j a b c => by omega⟩
    rw [h1'] at e ⊢
    rw [e]
    unfold xX8_looksForOwned_91
    rw [ix_nI (by omega) (by omega), grd_t, lt1_s, lt1_s, nI_clE (by omega), eT, show nI w + 1 = nI (w + 1) from nI_succE w]
    refine ⟨(upd g k (nI T), nI (w + 1)), rfl, ?_⟩
    have key : ∀ j, j < w + 1 → (j = k ∧ upd g k (nI T) j = nI T) ∨ (∃ i, i < w ∧ ((i < k ∧ j = i) ∨ (k ≤ i ∧ j = i + 1)) ∧ upd g k (nI T) j = nw i) := by
      intro j hj
      rcases Nat.lt_trichotomy j k with c | c | c
      · refine Or.inr ⟨j, by omega, Or.inl ⟨c, rfl⟩, ?_⟩
        rw [upd_ne (by omega)]
        exact j1 j c
      · subst c
        exact Or.inl ⟨rfl, upd_eq _ _ _⟩
      · refine Or.inr ⟨j - 1, by omega, Or.inr ⟨by omega, by omega⟩, ?_⟩
        rw [upd_ne (by omega)]
        have := j2 (j - 1) (by omega) (by omega)
        rw [Nat.sub_add_cancel (by omega)] at this
        exact this
    refine ⟨?_, ?_, ?_⟩
    · show nI (w + 1) = _
      rw [hcs]
    · intro j hj
      rw [hcs] at hj
      show ∃ u, u < T + 1 ∧ upd g k (nI T) j = nI u ∧ P 3 u = nI f
      rcases key j hj with ⟨-, e2⟩ | ⟨i, hi, -, e2⟩
      · exact ⟨T, by omega, e2, ho⟩
      · obtain ⟨u, hu, eu, ou⟩ := h2' i hi
        exact ⟨u, by omega, e2.trans eu, ou⟩
    · intro i j a b hij hj ha hb ea eb
      rw [hcs] at hj
      have ea' : upd g k (nI T) i = nI a := ea
      have eb' : upd g k (nI T) j = nI b := eb
      rcases key i (by omega) with ⟨ik, e2⟩ | ⟨i0, hi0, ci, e2⟩
      · have hTa : T = a := nI_lt_inj (by omega) (by omega) (e2.symm.trans ea')
        subst hTa
        rcases key j hj with ⟨jk, -⟩ | ⟨j0, hj0, cj, e3⟩
        · omega
        · exact j3 j0 b (by omega) hj0 hb (e3.symm.trans eb')
      · rcases key j hj with ⟨jk, e3⟩ | ⟨j0, hj0, cj, e3⟩
        · have hTb : T = b := nI_lt_inj (by omega) (by omega) (e3.symm.trans eb')
          subst hTb
          have hik : i0 < k := by omega
          have eni : nw i0 = nI a := e2.symm.trans ea'
          obtain ⟨u, hu, eu, ou⟩ := h2' i0 hi0
          have hau : u = a := nI_lt_inj (by omega) (by omega) (eu.symm.trans eni)
          subst hau
          have hne := own_md hW hf hF hT ha ho ou (by omega)
          rcases hend with z | ⟨c, hc, ec, hle⟩
          · omega
          · by_cases e0 : i0 = k - 1
            · subst e0
              have := nI_lt_inj (by omega) (by omega) (ec.symm.trans eni)
              subst this
              omega
            · have := h3' i0 (k - 1) u c (by omega) (by omega) ha hc eni ec
              omega
        · exact h3' i0 j0 a b (by omega) hj0 ha hb (e2.symm.trans ea') (e3.symm.trans eb')
  · have hcs : cnt (owb P f) (T + 1) = w := by rw [cnt_s, hw]; simp [owb, ho]
    have hI' : OwI P f (T + 1) (nw, ow) := by
      refine ⟨?_, ?_, ?_⟩
      · show ow = _
        rw [hcs, h1']
      · intro j hj
        rw [hcs] at hj
        obtain ⟨u, hu, eu, ou⟩ := h2' j hj
        exact ⟨u, by omega, eu, ou⟩
      · intro i j a b hij hj
        rw [hcs] at hj
        exact h3' i j a b hij hj
    refine ⟨(nw, ow), ?_, hI'⟩
    by_cases hsT : P 0 T = 2 ∨ P 0 T = 3
    · have e62 : (62 : Int32) + nI T = nI (62 + T) := nI_addE 62 T
      have o62 := (hS.2.2.1 T hT (sN (Or.inr hsT))).2.2.1
      rw [if_pos hsT, e62, ix_nI (by omega) (by omega), grd_t, nI_clE (by omega), o62, if_neg ho, eT]
    · rw [if_neg hsT, eT]
theorem m_looksOwned (hS : Sim P s) (hW : WInv P) {f : Nat} (hf : f < 20) (hF : isF P f) (nw : RSt) (ow : Int32) : ∃ nw', xX8_looksForOwned s nw ow (nI f) = some (nw', nI (owc P (nI f))) ∧ ∀ j, j < owc P (nI f) → nw' j = itr P (nI f) (j + 1) := by
  have h := loopI (fun m i (q : RSt × Int32) => xX8_looksForOwned_7 s m (nI f) (nI i) q.1 q.2) (OwI P f) 20 (fun m i q hi hI => m_own_step hS hW hf hF m i q hi hI) 20 600 0 (nw, nI 0) (by omega) (by omega) ⟨rfl, fun j hj => absurd hj (Nat.not_lt_zero j), fun i j a b _ hj => absurd hj (Nat.not_lt_zero j)⟩
  obtain ⟨m, q, e, h1, h2, h3⟩ := h
  obtain ⟨g, w⟩ := q
  have h1' : w = nI (owc P (nI f)) := h1
  subst h1'
  refine ⟨g, ?_, ?_⟩
  · unfold xX8_looksForOwned
    rw [lt1_s]
    refine (show xX8_looksForOwned_7 s 600 (nI f) (nI 0) nw (nI 0) = _ from e).trans ?_
    show xX8_looksForOwned_7 s (m + 1) (nI f) (nI 20) g (nI (owc P (nI f))) = _
    rw [xX8_looksForOwned_7, if_pos (by rw [L20, nI_leE (by omega) (by omega)]; omega)]
  · obtain ⟨p1, p2, p3, p4⟩ := own_pref hW hf hF
    have hp := hW.2.2.2.2.2.1
    have h2' : ∀ j, j < owc P (nI f) → ∃ u, u < 20 ∧ g j = nI u ∧ P 3 u = nI f := h2
    have h3' : ∀ i j a b, i < j → j < owc P (nI f) → a < 20 → b < 20 → g i = nI a → g j = nI b → md P b < md P a := h3
    have key := incr_id (c := owc P (nI f)) (fun j v => v < owc P (nI f) ∧ g j = itr P (nI f) (v + 1)) (fun j hj => by
      obtain ⟨u, hu, eu, ou⟩ := h2' j hj
      obtain ⟨v, hv, ev⟩ := p3 u hu ou
      exact ⟨v, hv, eu.trans ev.symm⟩) (fun j v hv => hv.1) (fun i j a b hij hj ra rb => by
      obtain ⟨u, hu, eu, ou⟩ := h2' i (by omega)
      obtain ⟨v, hv, ev, ov⟩ := h2' j hj
      have hm := h3' i j u v hij hj hu hv eu ev
      rcases Nat.lt_trichotomy a b with c | c | c
      · exact c
      · subst c
        have : u = v := nI_lt_inj (by omega) (by omega) ((eu.symm.trans ra.2).trans (ev.symm.trans rb.2).symm)
        subst this
        omega
      · have := ch_lt hp hf c hv hu (rb.2.symm.trans ev) (ra.2.symm.trans eu)
        omega)
    intro j hj
    obtain ⟨u, hu, eu, ou⟩ := h2' j hj
    obtain ⟨v, hv, ev⟩ := p3 u hu ou
    have hj2 := key j v hj ⟨hv, eu.trans ev.symm⟩
    subst hj2
    exact eu.trans ev.symm
end
