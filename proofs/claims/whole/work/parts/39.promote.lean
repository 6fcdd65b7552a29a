/-! ===== promoting ===== -/
theorem W_prom {P Q : PSt} (hI : WInv P) {f g O L : Nat} (hf : f < 20) (hg : g < 20) (hO : O < 20) (hF : isF P f) (hfg : f ≠ g) (hL : itr P (nI f) (L + 1) = nI O) (hOg : P 3 O = nI g) (hown : ∀ j, j < L → ∃ x, x < 20 ∧ itr P (nI f) (j + 1) = nI x ∧ P 3 x = nI f) (p : Nat → Bool) (hp : ∀ t, t < 20 → (p t = true ↔ (∃ j, itr P (nI f) (j + 1) = nI t) ∧ P 3 t = nI g)) (er : ∀ a, a ≠ 3 → Q a = P a) (e3 : ∀ t, t < 20 → Q 3 t = if p t then nI f else P 3 t) : WInv Q := by
  obtain ⟨w1, w2, w3, w4, w5, w6, w7, w8, w9, w10, w11, w12, w13, w14⟩ := hI
  have e0 := er 0 (by decide)
  have e1 := er 1 (by decide)
  have e2 := er 2 (by decide)
  have e4 := er 4 (by decide)
  have e5 := er 5 (by decide)
  have e6 := er 6 (by decide)
  have e7 := er 7 (by decide)
  have e8 := er 8 (by decide)
  have e9 := er 9 (by decide)
  have eS : ∀ t, isS Q t ↔ isS P t := fun t => by unfold isS; rw [e0]
  have eF : ∀ t, isF Q t ↔ isF P t := fun t => by unfold isF; rw [e0]
  have pno : ∀ t, t < 20 → P 3 t ≠ nI g → p t = false := fun t ht h => by
    cases hp2 : p t with
    | false => rfl
    | true => exact absurd ((hp t ht).mp hp2).2 h
  have hgm : nI g ≠ m1 := nI_ne_m1 (by omega)
  refine ⟨tr_kind e0 w1, tr_none e0 e4 e5 w2, ?_, ?_, ?_, tr_prev e0 e1 e2 w6, tr_made e0 e1 e9 w7, tr_slot e6 e7 w8, tr_size e7 e8 e9 w9, tr_same e6 w10, tr_born e0 e1 e6 e8 w11, tr_keep e1 e2 e6 e8 w12, tr_top e1 e2 e6 e8 w13, tr_tm e9 w14⟩
  · intro t ht h
    have h1 := w3 t ht (fun z => h (by unfold hs isF isS at *; rw [e0]; exact z))
    rw [e2, e3 t ht, pno t ht (by rw [h1.2.1]; exact Ne.symm hgm), e6]
    exact h1
  · intro t ht h
    have h1 := w4 t ht ((eF t).mp h)
    rw [e3 t ht, pno t ht (by rw [h1.1]; exact Ne.symm hgm), e0, e5]
    exact h1
  · intro t ht h
    have h1 := (eS t).mp h
    obtain ⟨h2, hh2, a1, a2, a3⟩ := w5 t ht h1
    cases hpt : p t with
    | true =>
      obtain ⟨⟨j, hj⟩, o⟩ := (hp t ht).mp hpt
      refine ⟨f, hf, by rw [e3 t ht, hpt]; rfl, (eF f).mpr hF, ?_⟩
      rw [e2]
      rcases Nat.eq_zero_or_pos j with h0 | h0
      · subst h0
        refine Or.inl ?_
        have hj' : pvo P (nI f) = nI t := hj
        rw [pvo_nI hf] at hj'
        exact hj'
      · obtain ⟨i, rfl⟩ : ∃ i, j = i + 1 := ⟨j - 1, by omega⟩
        obtain ⟨x, hx, ex, hxs⟩ : ∃ x, x < 20 ∧ itr P (nI f) (i + 1) = nI x ∧ isS P x := by
          rcases ch_snap w6 hf i with z | z
          · rw [ch_end z (i + 1 + 1) (by omega)] at hj
            exact absurd hj.symm (nI_ne_m1 (by omega))
          · exact z
        have hpx : P 2 x = nI t := by rw [← ch_next hx ex]; exact hj
        refine Or.inr ⟨x, hx, (eS x).mpr hxs, ?_, hpx⟩
        rw [e3 x hx]
        rcases Nat.lt_or_ge i L with h5 | h5
        · obtain ⟨y, hy, ey, oy⟩ := hown i h5
          have : y = x := nI_lt_inj (by omega) (by omega) (ey.symm.trans ex)
          subst this
          rw [pno y hy (by rw [oy]; exact fun z => hfg (nI_lt_inj (by omega) (by omega) z))]
          exact oy
        · -- it is between the origin and t
          obtain ⟨m, c1, c2⟩ := own_chain w5 w7 w6 hg _ t ht h1 o (Nat.le_refl _)
          obtain ⟨mO, d1, -⟩ := own_chain w5 w7 w6 hg _ O hO (own_isS w3 w4 hO hg hOg) hOg (Nat.le_refl _)
          have k1 : itr P (nI g) (mO + 1 + (i + 1 - L)) = nI t := by
            rw [itr_add, d1, ← hL, ← itr_add, show L + 1 + (i + 1 - L) = i + 1 + 1 by omega]
            exact hj
          have k2 : itr P (nI g) (mO + 1 + (i - L)) = nI x := by
            rw [itr_add, d1, ← hL, ← itr_add, show L + 1 + (i - L) = i + 1 by omega]
            exact ex
          have k3 : m = mO + (i + 1 - L) := by
            refine ch_inj w6 hg ht c1 ?_
            rw [show mO + (i + 1 - L) + 1 = mO + 1 + (i + 1 - L) by omega]
            exact k1
          obtain ⟨y, hy, ey, oy, -⟩ := c2 (mO + (i - L)) (by omega)
          rw [show mO + (i - L) + 1 = mO + 1 + (i - L) by omega] at ey
          have : y = x := nI_lt_inj (by omega) (by omega) (ey.symm.trans k2)
          subst this
          rw [(hp y hy).mpr ⟨⟨i, ex⟩, oy⟩]
          rfl
    | false =>
      refine ⟨h2, hh2, by rw [e3 t ht, hpt]; exact a1, (eF h2).mpr a2, ?_⟩
      rw [e2]
      rcases a3 with a3 | ⟨u, hu, b1, b2, b3⟩
      · exact Or.inl a3
      · refine Or.inr ⟨u, hu, (eS u).mpr b1, ?_, b3⟩
        rw [e3 u hu]
        cases hpu : p u with
        | false => exact b2
        | true =>
          obtain ⟨⟨j, hj⟩, o⟩ := (hp u hu).mp hpu
          have hg2 : h2 = g := nI_lt_inj (by omega) (by omega) (b2.symm.trans o)
          subst hg2
          have : p t = true := (hp t ht).mpr ⟨⟨j + 1, by rw [ch_next hu hj]; exact b3⟩, a1⟩
          rw [this] at hpt
          cases hpt
/-- what is moved: P' with the owners of p's things f -/
def PrI (P : PSt) (f g A i : Nat) (s : Int32 × Int32 × PSt) : Prop := s.1 = itr P (nI f) (A + 1 + i) ∧ ∃ p : Nat → Bool, s.2.1 = nI (cnt p 20) ∧ (∀ t, t < 20 → (p t = true ↔ (∃ j, j < i ∧ itr P (nI f) (A + 1 + j) = nI t) ∧ P 3 t = nI g)) ∧ (∀ a, a ≠ 3 → s.2.2 a = P a) ∧ (∀ t, t < 20 → s.2.2 3 t = if p t then nI f else P 3 t)
theorem c_prom49 {P : PSt} (hI : Inv P) {f g A : Nat} (hf : f < 20) (hg : g < 20) (hF : isF P f) (hfg : f ≠ g) : ∃ (c : Nat) (R : PSt) (p : Nat → Bool), xX0_promoteFiles_49 600 (nI f) (itr P (nI f) (A + 1)) (nI g) 0 0 P = some (nI c, R) ∧ cnt p 20 = c ∧ (∀ t, t < 20 → (p t = true ↔ (∃ j, itr P (nI f) (A + 1 + j) = nI t) ∧ P 3 t = nI g)) ∧ (∀ a, a ≠ 3 → R a = P a) ∧ (∀ t, t < 20 → R 3 t = if p t then nI f else P 3 t) := by
  have hI2 := hI
  obtain ⟨w1, w2, w3, w4, w5, w6, w7, w8, w9, w10, w11, w12, w13, w14⟩ := hI2
  have hsh := ch_short w6 hf (Or.inl hF)
  -- where the chain ends
  obtain ⟨E, hE, hEl⟩ := pk_least (fun E => itr P (nI f) (A + 1 + E) = m1) ⟨20, ch_end hsh _ (by omega)⟩
  have hE19 : E ≤ 19 := by
    rcases Nat.lt_or_ge 19 E with h | h
    · exact absurd (ch_end hsh (A + 1 + 19) (by omega)) (hEl 19 h)
    · exact h
  have hloop := loopI (fun m i (s : Int32 × Int32 × PSt) => xX0_promoteFiles_49 m (nI f) s.1 (nI g) s.2.1 (nI i) s.2.2) (PrI P f g A) E (fun m i s hi hs => by
    obtain ⟨at0, mv, R⟩ := s
    obtain ⟨e1, p, e2, hp, hr, h3⟩ := hs
    dsimp only at e1 e2 hr h3
    obtain ⟨t, ht, et, hts⟩ : ∃ t, t < 20 ∧ itr P (nI f) (A + 1 + i) = nI t ∧ isS P t := by
      have := ch_snap w6 hf (A + i)
      rw [show A + i + 1 = A + 1 + i by omega] at this
      rcases this with z | z
      · exact absurd z (hEl i hi)
      · exact z
    rw [et] at e1
    subst e1
    have htm : ¬ nI t = (-1 : Int32) := nI_ne_m1 (by omega)
    have hpt : p t = false := by
      cases hpt : p t with
      | false => rfl
      | true =>
        obtain ⟨⟨j, hj, ej⟩, -⟩ := (hp t ht).mp hpt
        have := ch_inj w6 hf (i := A + j) (j := A + i) ht (by rw [show A + j + 1 = A + 1 + j by omega]; exact ej) (by rw [show A + i + 1 = A + 1 + i by omega]; exact et)
        omega
    have o3 : R 3 t = P 3 t := by rw [h3 t ht, hpt]; rfl
    have nx : itr P (nI f) (A + 1 + (i + 1)) = P 2 t := by
      rw [show A + 1 + (i + 1) = A + 1 + i + 1 by omega, ch_next ht et]
    have i20 : ¬ (20 : Int32) ≤ nI i := by rw [L20, nI_leE (by omega) (by omega)]; omega
    show ∃ s' : Int32 × Int32 × PSt, xX0_promoteFiles_49 (m + 1) (nI f) (nI t) (nI g) mv (nI i) R = xX0_promoteFiles_49 m (nI f) s'.1 (nI g) s'.2.1 (nI (i + 1)) s'.2.2 ∧ PrI P f g A (i + 1) s'
    rw [xX0_promoteFiles_49, if_neg i20, if_neg htm, c_ownerOf, bn1_s, rd_nI (by decide) ht, o3]
    by_cases ho : P 3 t = nI g
    · rw [if_pos ho, c_setOwner ht, bn1_s]
      unfold xX0_promoteFiles_86
      rw [c_prevOf, bn1_s, rd_nI (by decide) ht, st_ne1 (by decide), hr 2 (by decide), show nI i + 1 = nI (i + 1) from nI_1 i]
      refine ⟨(P 2 t, mv + 1, st R 3 t (nI f)), rfl, nx.symm, fun c => p c || decide (c = t), ?_, fun c hc => ?_, fun a ha => ?_, fun c hc => ?_⟩
      · show mv + 1 = _
        rw [e2, cnt_add1 (p := fun c => p c || decide (c = t)) (q := p) ht (fun c hc hne => by simp [hne]) (by simp) hpt]
        exact nI_1 _
      · rw [Bool.or_eq_true, hp c hc, decide_eq_true_eq]
        constructor
        · rintro (⟨⟨j, hj, ej⟩, o⟩ | z)
          · exact ⟨⟨j, by omega, ej⟩, o⟩
          · subst z; exact ⟨⟨i, by omega, et⟩, ho⟩
        · rintro ⟨⟨j, hj, ej⟩, o⟩
          rcases Nat.lt_or_ge j i with y | y
          · exact Or.inl ⟨⟨j, y, ej⟩, o⟩
          · have : j = i := by omega
            subst this
            exact Or.inr (nI_lt_inj (by omega) (by omega) (ej.symm.trans et))
      · show st R 3 t (nI f) a = P a
        rw [st_row ha]; exact hr a ha
      · show st R 3 t (nI f) 3 c = _
        rw [st_if]
        by_cases hc2 : c = t
        · simp [hc2]
        · rw [if_neg (by omega), h3 c hc]
          simp [hc2]
    · rw [if_neg ho]
      unfold xX0_promoteFiles_86
      rw [c_prevOf, bn1_s, rd_nI (by decide) ht, hr 2 (by decide), show nI i + 1 = nI (i + 1) from nI_1 i]
      refine ⟨(P 2 t, mv, R), rfl, nx.symm, p, e2, fun c hc => ?_, hr, h3⟩
      rw [hp c hc]
      constructor
      · rintro ⟨⟨j, hj, ej⟩, o⟩
        exact ⟨⟨j, by omega, ej⟩, o⟩
      · rintro ⟨⟨j, hj, ej⟩, o⟩
        rcases Nat.lt_or_ge j i with y | y
        · exact ⟨⟨j, y, ej⟩, o⟩
        · have : j = i := by omega
          subst this
          have := nI_lt_inj (by omega) (by omega) (ej.symm.trans et)
          subst this
          exact absurd o ho) E 600 0 (itr P (nI f) (A + 1), 0, P) (by omega) (by omega) ⟨rfl, fun _ => false, (by rw [cnt_zero.mpr (fun _ _ => rfl)]; rfl), fun t ht => ⟨fun z => (by cases z), fun ⟨⟨j, hj, _⟩, _⟩ => (by omega)⟩, fun _ _ => rfl, fun _ _ => rfl⟩
  obtain ⟨m, s', e, h1, p, h2, hp, hr, h3⟩ := hloop
  obtain ⟨at0, mv, R⟩ := s'
  dsimp only at h1 h2 hr h3 e
  refine ⟨cnt p 20, R, p, ?_, rfl, fun t ht => ?_, hr, h3⟩
  · refine e.trans ?_
    rw [h1, hE, h2, xX0_promoteFiles_49]
    split
    · rfl
    · rw [if_pos rfl]
  · rw [hp t ht]
    constructor
    · rintro ⟨⟨j, hj, ej⟩, o⟩
      exact ⟨⟨j, ej⟩, o⟩
    · rintro ⟨⟨j, ej⟩, o⟩
      refine ⟨⟨j, ?_, ej⟩, o⟩
      rcases Nat.lt_or_ge j E with y | y
      · exact y
      · rw [ch_end hE (A + 1 + j) (by omega)] at ej
        exact absurd ej.symm (nI_ne_m1 (by omega))
