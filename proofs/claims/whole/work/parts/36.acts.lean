/-! ===== the class's acts ===== -/
theorem st_row {P : PSt} {k i a : Nat} {v : Int32} (h : a ≠ k) : st P k i v a = P a := funext (fun _ => st_ne1 h)
/-- files let a slot go -/
theorem c_emptySlot_m1 {P : PSt} {f k : Nat} (hf : f < 20) (hk : k < 12) (h : P 6 (f * 12 + k) = m1) : xX0_emptySlot P (nI f) (nI k) = some (0, st P 6 (f * 12 + k) m1) := by
  unfold xX0_emptySlot
  rw [c_blockIn, bn1_s, bi_nI hf hk, h, c_setSlot hf hk, bn1_s, if_pos rfl]
theorem c_emptySlot_b {P : PSt} {f k b : Nat} (hf : f < 20) (hk : k < 12) (hb : b < 96) (h : P 6 (f * 12 + k) = nI b) : xX0_emptySlot P (nI f) (nI k) = some (if rd 20 (P 1) 0 (P 2 f) < P 8 b then (1, frb (st P 6 (f * 12 + k) m1) b) else (0, st P 6 (f * 12 + k) m1)) := by
  unfold xX0_emptySlot
  simp only [c_blockIn, bn1_s, bi_nI hf hk, h, c_setSlot hf hk, c_birthOf, c_prevOf, c_madeOf, st_row (show (8 : Nat) ≠ 6 by decide), st_row (show (2 : Nat) ≠ 6 by decide), st_row (show (1 : Nat) ≠ 6 by decide), rd_nI (show 96 < 2147483648 by decide) hb, rd_nI (show 20 < 2147483648 by decide) hf, c_freeBlock hb]
  rw [if_neg (nI_ne_m1 (by omega))]
  split <;> rfl
theorem top_iff {P : PSt} (hp : I_prev P) {f b : Nat} (hf : f < 20) (hb : 1 ≤ bt1 P b) : (rd 20 (P 1) 0 (P 2 f) < P 8 b) ↔ top P f b := by
  rcases hp f hf with h | ⟨u, hu, e, -⟩
  · rw [h, rd_m1]
    constructor
    · intro _ u hu e
      rw [h] at e
      exact absurd e.symm (nI_ne_m1 (by omega))
    · intro _
      rw [Int32.lt_iff_toInt_lt]
      unfold bt1 at hb
      show (0 : Int32).toInt < _
      rw [show (0 : Int32).toInt = 0 by decide]
      omega
  · rw [e, rd_nI (by decide) hu, Int32.lt_iff_toInt_lt]
    constructor
    · intro h v hv e2
      have := nI_lt_inj (by omega) (by omega) (e.symm.trans e2)
      subst this
      exact h
    · intro h
      exact h u hu e
theorem frb_lo {P : PSt} {b a i : Nat} (h : a ≤ 6 ∨ a = 9) : frb P b a i = P a i := by
  unfold frb
  rw [st_ne1 (by omega), st_ne1 (by omega), st_ne1 (by omega)]
theorem frb_7 {P : PSt} {b i : Nat} : frb P b 7 i = if i = b then 0 else P 7 i := by
  unfold frb
  rw [st_ne1 (by decide), st_ne1 (by decide), st_if]
  by_cases h : i = b
  · rw [if_pos ⟨rfl, h⟩, if_pos h]
  · rw [if_neg (by omega), if_neg h]
theorem frb_8 {P : PSt} {b i : Nat} : frb P b 8 i = if i = b then 0 else P 8 i := by
  unfold frb
  rw [st_ne1 (by decide), st_if]
  by_cases h : i = b
  · rw [if_pos ⟨rfl, h⟩, if_pos h]
  · rw [if_neg (by omega), if_neg h, st_ne1 (by decide)]
theorem frb_10 {P : PSt} {b : Nat} : frb P b 10 0 = P 10 0 + 1 := by
  unfold frb
  rw [st_eq]
theorem held_esl {P : PSt} {f k b : Nat} (hk : k < 12) (hb : b < 96) : held (st P 6 (f * 12 + k) m1) b ↔ ∃ t k', t < 20 ∧ k' < 12 ∧ hl P t k' b ∧ (t ≠ f ∨ k' ≠ k) := by
  constructor
  · rintro ⟨t, k', ht, hk', h⟩
    unfold hl at h
    rw [st_if] at h
    split at h
    · exact absurd h.symm (nI_ne_m1 (by omega))
    · rename_i z
      refine ⟨t, k', ht, hk', h, ?_⟩
      rcases em_ne (t := t) (n := f) with w | w
      · refine Or.inr (fun y => z ⟨rfl, by rw [w, y]⟩)
      · exact Or.inl w
  · rintro ⟨t, k', ht, hk', h, hne⟩
    refine ⟨t, k', ht, hk', ?_⟩
    unfold hl
    rw [st_if, if_neg (fun z => slt_ne hk' hk hne z.2)]
    exact h
/-- one slot of files emptied -/
theorem E_slot {P : PSt} (hI : Inv P) {f k : Nat} (hf : f < 20) (hk : k < 12) (hF : isF P f) : ∃ n P', xX0_emptySlot P (nI f) (nI k) = some (nI n, P') ∧ GC (st P 6 (f * 12 + k) m1) P' n ∧ Inv P' := by
  have hW : WInv (st P 6 (f * 12 + k) m1) := W_esl hI.w hf hk hF (fun a ha => st_row ha) (fun i => by rw [st_if]; by_cases h : i = f * 12 + k <;> simp [h])
  have hI2 := hI
  obtain ⟨w1, w2, w3, w4, w5, w6, w7, w8, w9, w10, w11, w12, w13, w14⟩ := hI2
  rcases w8 f k hf hk with h | ⟨b, hb, h, hz⟩
  · have hG : GC (st P 6 (f * 12 + k) m1) (st P 6 (f * 12 + k) m1) 0 := by
      refine GC_refl (fun c hc z => ?_)
      rw [st_ne1 (by decide)] at z
      obtain ⟨t, k', ht, hk', hh⟩ := ((w9 c hc).2.2 (sz_ne.mp z)).2.2
      refine (held_esl hk hc).mpr ⟨t, k', ht, hk', hh, ?_⟩
      rcases em_ne (t := t) (n := f) with w | w
      · refine Or.inr (fun y => ?_)
        subst w; subst y
        unfold hl at hh
        rw [h] at hh
        exact absurd hh.symm (nI_ne_m1 (by omega))
      · exact Or.inl w
    exact ⟨0, _, c_emptySlot_m1 hf hk h, hG, GC_inv hW hG⟩
  · have hz2 := (w9 b hb).2.2 (by omega)
    have hti := top_iff w6 hf hz2.1
    by_cases ht : top P f b
    · -- it goes
      have hno : ¬ held (st P 6 (f * 12 + k) m1) b := by
        intro z
        obtain ⟨t, k', h1, h2, h3, h4⟩ := (held_esl hk hb).mp z
        have := top_files hI hf hk hb hF h ht h1 h2 h3
        omega
      have hst : ∀ c, c < 96 → c ≠ b → P 7 c ≠ 0 → held (st P 6 (f * 12 + k) m1) c := by
        intro c hc hcb z
        obtain ⟨t, k', g1, g2, g3⟩ := ((w9 c hc).2.2 (sz_ne.mp z)).2.2
        refine (held_esl hk hc).mpr ⟨t, k', g1, g2, g3, ?_⟩
        rcases em_ne (t := t) (n := f) with w | w
        · refine Or.inr (fun y => ?_)
          subst w; subst y
          exact hcb (nI_lt_inj (by omega) (by omega) (g3.symm.trans h))
        · exact Or.inl w
      have hG : GC (st P 6 (f * 12 + k) m1) (frb (st P 6 (f * 12 + k) m1) b) 1 := by
        refine ⟨fun a i ha => frb_lo (Or.inl ha), frb_lo (Or.inr rfl), fun c hc z => ?_, fun c hc z => ?_, frb_10, fun c => decide (c = b), fun c hc => ?_, cnt_one hb (by simp) (fun j hj hne => by simp [hne])⟩
        · have hcb : c ≠ b := fun w => hno (w ▸ z)
          rw [frb_7, frb_8, if_neg hcb, if_neg hcb]
          exact ⟨rfl, rfl⟩
        · rw [frb_7]
          split
          · rfl
          · rename_i hcb
            rw [st_ne1 (by decide)]
            rcases Classical.em (P 7 c = 0) with w | w
            · exact w
            · exact absurd (hst c hc hcb w) z
        · rw [decide_eq_true_eq, st_ne1 (by decide)]
          constructor
          · intro w
            subst w
            exact ⟨sz_ne.mpr (by omega), hno⟩
          · rintro ⟨g1, g2⟩
            rcases em_ne (t := c) (n := b) with w | w
            · exact w
            · exact absurd (hst c hc w g1) g2
      refine ⟨1, _, ?_, hG, GC_inv hW hG⟩
      rw [c_emptySlot_b hf hk hb h, if_pos (hti.mpr ht)]
      rfl
    · -- its predecessor holds it
      have hG : GC (st P 6 (f * 12 + k) m1) (st P 6 (f * 12 + k) m1) 0 := by
        refine GC_refl (fun c hc z => ?_)
        rw [st_ne1 (by decide)] at z
        rcases em_ne (t := c) (n := b) with w | w
        · subst w
          rcases top_or (P := P) (t := f) (b := c) with g | ⟨u, hu, e, g⟩
          · exact absurd g ht
          · have g1 := w12 f u k c hf hu hk hc e h g
            have g2 := (pv_isS w6 hf hu e).1
            exact (held_esl hk hc).mpr ⟨u, k, hu, hk, g1, Or.inl (fun y => sF g2 (y ▸ hF))⟩
        · obtain ⟨t, k', g1, g2, g3⟩ := ((w9 c hc).2.2 (sz_ne.mp z)).2.2
          refine (held_esl hk hc).mpr ⟨t, k', g1, g2, g3, ?_⟩
          rcases em_ne (t := t) (n := f) with y | y
          · refine Or.inr (fun x => ?_)
            subst y; subst x
            exact w (nI_lt_inj (by omega) (by omega) (g3.symm.trans h))
          · exact Or.inl y
      refine ⟨0, _, ?_, hG, GC_inv hW hG⟩
      rw [c_emptySlot_b hf hk hb h, if_neg (fun z => ht (hti.mp z))]
      rfl
theorem GC_rows {Q P' : PSt} {n : Nat} (h : GC Q P' n) {a : Nat} (ha : a ≤ 6) : P' a = Q a := funext (fun i => h.1 a i ha)
theorem GC_isF {Q P' : PSt} {n : Nat} (h : GC Q P' n) {t : Nat} : isF P' t ↔ isF Q t := by
  unfold isF
  rw [GC_rows h (by omega)]
theorem Inv_GC0 {P : PSt} (hI : Inv P) : GC P P 0 := GC_refl (fun b hb z => by
  obtain ⟨t, k, h1, h2, h3⟩ := ((hI.2.2.2.2.2.2.2.2.1 b hb).2.2 (sz_ne.mp z)).2.2
  exact ⟨t, k, h1, h2, h3⟩)
/-- all slots of files emptied, one after the other; L is a loop that does so -/
theorem E_all {P : PSt} (hI : Inv P) {f : Nat} (hf : f < 20) (hF : isF P f) (L : Nat → Nat → Int32 × PSt → Option (Int32 × PSt)) (hL : ∀ n i g R, i < 12 → L (n + 1) i (g, R) = bn2 (xX0_emptySlot R (nI f) (nI i)) (fun v R' => L n (i + 1) (g + v, R'))) : ∃ m n R, L 600 0 (0, P) = L (m + 1) 12 (nI n, R) ∧ GC (clr P f 12) R n ∧ Inv R := by
  have h := loopI L (fun i s => ∃ n, s.1 = nI n ∧ GC (clr P f i) s.2 n ∧ Inv s.2 ∧ isF s.2 f) 12 (fun n i s hi hs => by
    obtain ⟨g, R⟩ := s
    obtain ⟨n1, e1, hG, hIR, hFR⟩ := hs
    obtain ⟨n2, R', e2, hG2, hI2⟩ := E_slot hIR hf hi hFR
    refine ⟨(g + nI n2, R'), ?_, n1 + n2, ?_, ?_, hI2, ?_⟩
    · rw [hL n i g R hi, e2, bn2_s]
    · show g + nI n2 = nI (n1 + n2)
      have e1' : g = nI n1 := e1
      rw [e1', nI_addE]
    · have := GC_two hG rfl hG2
      rw [clr_s] at this
      exact this
    · refine (GC_isF hG2).mpr ?_
      unfold isF
      rw [st_row (show (0 : Nat) ≠ 6 by decide)]
      exact hFR) 12 600 0 (0, P) (by omega) (by omega) ⟨0, rfl, by rw [clr_0]; exact Inv_GC0 hI, hI, hF⟩
  obtain ⟨m, s', e, n, e1, hG, hIR, -⟩ := h
  obtain ⟨g, R⟩ := s'
  have e1' : g = nI n := e1
  subst e1'
  exact ⟨m, n, R, e, hG, hIR⟩
