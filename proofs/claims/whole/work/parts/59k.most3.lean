/-! ===== most and fewest, paired ===== -/
section
variable {P : PSt} {s : RSt} {n : Nat}
theorem hhv_lt {C : RSt} {d b : Nat} (hd : d ≤ 8) : hhv P C d b < 256 := by
  unfold hhv
  split
  · exact Nat.lt_of_lt_of_le (cbn_lt d) (pow8 hd)
  · decide
/-- a block that a set of places frees -/
theorem hhv_iff (hI : Inv P) {C : RSt} {d b r : Nat} (hd : d ≤ 8) (hC : Enm C d) (hb : b < 96) (hr : r < 2 ^ d) (h7 : P 7 b ≠ 0) : (hhv P C d b ≠ 0 ∧ ∀ j, j < 8 → (hhv P C d b).testBit j = true → r.testBit j = true) ↔ alb P (Sc C d r) b = true := by
  have hW := hI.w
  have hcl : ∀ i x, x < 20 → C i = nI x → (C i).toNatClampNeg = x := fun i x hx e => by rw [e, nI_clE (by omega)]
  -- the count of places is that of the holders among them
  have e1 : cnt (fun j => (cbn P C b d).testBit j) 8 = cnt (fun t => hdb P t b && ful C d t) 20 := by
    rw [cnt_bits (cbn_lt d) hd, ← Sc_cnt d hC]
    refine cnt_cong (fun t ht => ?_)
    rw [Bool.eq_iff_iff, Sc_iff, Bool.and_eq_true, ful_iff]
    constructor
    · rintro ⟨i, hi, h1, h2⟩
      rw [cbn_bit d hi, hcl i t ht h2] at h1
      exact ⟨h1, i, hi, h2⟩
    · rintro ⟨h1, i, hi, h2⟩
      exact ⟨i, hi, by rw [cbn_bit d hi, hcl i t ht h2]; exact h1, h2⟩
  have e2 := (cnt_subset (p := fun t => hdb P t b && ful C d t) (q := fun t => hdb P t b) (n := 20) (fun k _ hk => by rw [Bool.and_eq_true] at hk; exact hk.1)).2
  have hall : (cnt (fun j => (cbn P C b d).testBit j) 8 = hc P b) ↔ ∀ t, t < 20 → hdb P t b = true → ful C d t = true := by
    rw [e1, hc_things hW hb, e2]
    constructor
    · intro h t ht hh
      have := h t ht hh
      rw [Bool.and_eq_true] at this
      exact this.2
    · intro h t ht hh
      rw [Bool.and_eq_true]
      exact ⟨hh, h t ht hh⟩
  rw [alb_iff]
  constructor
  · rintro ⟨h0, hs⟩ t ht hh
    unfold hhv at h0 hs
    by_cases hq : cnt (fun j => (cbn P C b d).testBit j) 8 = hc P b
    · rw [if_pos hq] at h0 hs
      obtain ⟨i, hi, ei⟩ := ful_iff.mp (hall.mp hq t ht hh)
      refine Sc_iff.mpr ⟨i, hi, hs i (by omega) ?_, ei⟩
      rw [cbn_bit d hi, hcl i t ht ei]
      exact hh
    · rw [if_neg hq] at h0
      exact absurd rfl h0
  · intro h
    have hq := hall.mpr (fun t ht hh => by
      obtain ⟨i, hi, -, ei⟩ := Sc_iff.mp (h t ht hh)
      exact ful_iff.mpr ⟨i, hi, ei⟩)
    unfold hhv
    rw [if_pos hq]
    refine ⟨fun z => ?_, fun j hj hx => ?_⟩
    · -- it is held
      have hz : sz1 P b ≠ 0 := by
        intro w
        exact h7 (Int32.toInt_inj.mp (show (P 7 b).toInt = (0 : Int32).toInt from w.trans (by decide)))
      obtain ⟨-, -, hz2⟩ := hI.2.2.2.2.2.2.2.2.1 b hb
      obtain ⟨-, -, t, k, ht, hk, hl⟩ := hz2 hz
      have hh : hdb P t b = true := hdb_iff.mpr ⟨k, hk, hl⟩
      obtain ⟨i, hi, -, ei⟩ := Sc_iff.mp (h t ht hh)
      have := cbn_bit (P := P) (C := C) (b := b) d hi
      rw [z, hcl i t ht ei, hh, Nat.zero_testBit] at this
      cases this
    · rcases Nat.lt_or_ge j d with w | w
      · obtain ⟨x, hx20, ex⟩ := hC.1 j w
        rw [cbn_bit d w, hcl j x hx20 ex] at hx
        obtain ⟨i, hi, hbi, ei⟩ := Sc_iff.mp (h x hx20 hx)
        have := Enm_inj hC hi w (ei.trans ex.symm)
        subst this
        exact hbi
      · rw [bit_hi (cbn_lt d) w] at hx
        cases hx
theorem m_freedBy (hI : Inv P) (hS : Sim P s) {C hh : RSt} {d r : Nat} (hd : d ≤ 8) (hC : Enm C d) (hr : r < 2 ^ d) (hhh : ∀ b, b < 96 → hh b = nI (hhv P C d b)) : xX8_freedBy s hh (nI r) = some (fre P (Sc C d r)) := by
  have hr256 : r < 256 := Nat.lt_of_lt_of_le hr (pow8 hd)
  unfold xX8_freedBy
  refine loop0 (fun m i v => xX8_freedBy_5 s hh m (nI r) v (nI i)) (fun i => sumL (fun b => if alb P (Sc C d r) b then (P 7 b).toInt64 else 0) i) _ 96 600 (by decide) ?_ ?_
  · intro m b hb
    have e7 := hS.2.2.2.2.1 b hb
    have hv := hhv_lt (P := P) (C := C) (b := b) hd
    have hsub := bSub hv hr256
    have ea : (362 : Int32) + nI b = nI (362 + b) := nI_addE 362 b
    show xX8_freedBy_5 s hh (m + 1) (nI r) (sumL (fun b => if alb P (Sc C d r) b then (P 7 b).toInt64 else 0) b) (nI b) = xX8_freedBy_5 s hh m (nI r) (sumL (fun b => if alb P (Sc C d r) b then (P 7 b).toInt64 else 0) (b + 1)) (nI (b + 1))
    rw [xX8_freedBy_5, if_neg (show ¬ (96 : Int32) ≤ nI b by rw [L96, nI_leE (by omega) (by omega)]; omega), ix_nI (by omega) (by omega), grd_t, nI_clE (by omega), hhh b hb, grd_t, ea, ix_nI (by omega) (by omega), grd_t, nI_clE (by omega), e7, show nI b + 1 = nI (b + 1) from nI_succE b, sumL_s]
    have e0 : (nI (hhv P C d b) = 0) ↔ hhv P C d b = 0 := by rw [L0, nI_inj (by omega) (by omega)]
    by_cases h7 : P 7 b = 0
    · have hz : (if alb P (Sc C d r) b then (P 7 b).toInt64 else 0) = 0 := by rw [h7]; split <;> rfl
      rw [hz, h7, show Int32.toInt64 0 = 0 from rfl]
      split
      · rfl
      · split <;> rfl
    · have key := hhv_iff hI hd hC hb hr h7
      by_cases a : alb P (Sc C d r) b = true
      · obtain ⟨k1, k2⟩ := key.mpr a
        rw [if_neg (fun w => k1 (e0.mp w)), if_pos (hsub.mpr k2), if_pos a]
      · rw [if_neg a]
        by_cases z : nI (hhv P C d b) = 0
        · rw [if_pos z]
        · rw [if_neg z, if_neg (fun w => a (key.mp ⟨fun y => z (e0.mpr y), hsub.mp w⟩))]
  · intro m
    show xX8_freedBy_5 s hh (m + 1) (nI r) _ (nI 96) = _
    rw [xX8_freedBy_5, if_pos (show (96 : Int32) ≤ nI 96 by decide)]
    rfl
/-- what both calls of the reference find out first -/
theorem m_first (hI : Inv P) (hS : Sim P s) {f : Nat} (hf : f < 20) (hF : isF P f) (hd nw hh : RSt) (ow : Int32) : ∃ nw' ow' hd' hh' d, xX8_looksForOwned s nw ow (nI f) = some (nw', ow') ∧ xX8_looksForHolders s nw' ow' hd hh = some (nI (lmn P nw' d), hd', hh') ∧ d ≤ 8 ∧ Enm nw' d ∧ (∀ i x, i < d → (lmn P nw' d).testBit i = true → x < 20 → nw' i = nI x → Lo P f x) ∧ (∀ x, x < 20 → Lo P f x → ∃ i, i < d ∧ (lmn P nw' d).testBit i = true ∧ nw' i = nI x) ∧ ∀ r, r < 2 ^ d → xX8_freedBy s hh' (nI r) = some (fre P (Sc nw' d r)) := by
  have hW := hI.w
  obtain ⟨nw', e1, hnw⟩ := m_looksOwned hS hW hf hF nw ow
  obtain ⟨p1, -, -, p4⟩ := own_pref hW hf hF
  have hp := hW.2.2.2.2.2.1
  obtain ⟨d, hd8, hdo, hd3⟩ : ∃ d, d ≤ 8 ∧ d ≤ owc P (nI f) ∧ (d < owc P (nI f) → d = 8) := by
    by_cases h : 8 ≤ owc P (nI f)
    · exact ⟨8, by omega, h, fun _ => rfl⟩
    · exact ⟨owc P (nI f), by omega, Nat.le_refl _, fun w => by omega⟩
  have hx : ∀ j, j < d → ∃ x, x < 20 ∧ nw' j = nI x ∧ isS P x ∧ itr P (nI f) (j + 1) = nI x := by
    intro j hj
    obtain ⟨x, hx, ex, -, hsx⟩ := p1 j (by omega)
    exact ⟨x, hx, (hnw j (by omega)).trans ex, hsx, ex⟩
  obtain ⟨hd', hh', e2, h2⟩ := m_lh hS hW (nw := nw') p4 ⟨hd8, hdo, hd3⟩ (fun j hj => by
    obtain ⟨x, a, b, c, -⟩ := hx j hj
    exact ⟨x, a, b, c⟩) hd hh
  have hE : Enm nw' d := by
    refine ⟨fun i hi => ?_, fun i j hij hj w => ?_⟩
    · obtain ⟨x, a, b, -, -⟩ := hx i hi
      exact ⟨x, a, b⟩
    · obtain ⟨x, a, b, -, c⟩ := hx i (by omega)
      obtain ⟨y, a', b', -, c'⟩ := hx j hj
      have hxy : x = y := nI_lt_inj (by omega) (by omega) (b.symm.trans (w.trans b'))
      subst hxy
      have := ch_inj hp hf a c c'
      omega
  refine ⟨nw', _, hd', hh', d, e1, e2, hd8, hE, fun i x hi hb hx20 ei => ?_, fun x hx20 hl => ?_, fun r hr => m_freedBy hI hS hd8 hE hr h2⟩
  · have h3 := (lmn_bit d hi).mp hb
    rw [ei, nI_clE (by omega)] at h3
    obtain ⟨y, a, b, -, c⟩ := hx i hi
    have hxy : y = x := nI_lt_inj (by omega) (by omega) (b.symm.trans ei)
    subst hxy
    exact ⟨i, by omega, by omega, c, h3⟩
  · obtain ⟨k, h8, ho, ex, hl⟩ := hl
    have hk : k < d := by omega
    obtain ⟨y, a, b, -, c⟩ := hx k hk
    have hxy : y = x := nI_lt_inj (by omega) (by omega) (c.symm.trans ex)
    subst hxy
    refine ⟨k, hk, (lmn_bit d hk).mpr ?_, b⟩
    rw [b, nI_clE (by omega)]
    exact hl
theorem sub_lt {r l d : Nat} (hr : r < 256) (hl : l < 2 ^ d) (h : ∀ j, j < 8 → r.testBit j = true → l.testBit j = true) : r < 2 ^ d := by
  refine Nat.lt_pow_two_of_testBit r (fun i hi => ?_)
  rcases Nat.lt_or_ge i 8 with q | q
  · cases hb : r.testBit i with
    | false => rfl
    | true => have := h i q hb; rw [bit_hi hl hi] at this; cases this
  · exact bit_hi (d := 8) hr q
theorem q_most (h : Good P s n) (Y C : RSt) (F : Nat → Int64) (hd nw hh : RSt) (ow x y : Int32) : ∃ r Y' C' F' hd' nw' hh' ow', xX7_most P Y C F x y = some (r, Y', C', F') ∧ xX8_most s hd nw hh ow x y = some (r, hd', nw', hh', ow') := by
  obtain ⟨hI, hS, -⟩ := h
  have hW := hI.w
  unfold xX7_most xX8_most
  rw [c_in3 (y := y) (lo := 0) (hi := 8), m_in, bn1_s, ite10]
  by_cases hy : (0 : Int32) ≤ y ∧ y ≤ 8
  · rw [if_pos hy, if_pos hy, c_isFiles, bn1_s, m_isFiles hS, bn1_s, ite10, ite10]
    by_cases hx : rd 20 (P 0) m1 x = 0 ∨ rd 20 (P 0) m1 x = 1
    · rw [if_pos hx, if_pos hx]
      obtain ⟨nn, hnn, rfl⟩ := in_ex (n := 8) (by decide) hy
      have hxf : ∃ f, f < 20 ∧ x = nI f ∧ isF P f := by
        rcases arg_ix x (n := 20) (by decide) with w | ⟨f, hf, rfl⟩
        · rw [rd_o w] at hx
          rcases hx with z | z <;> exact absurd z (by decide)
        · rw [rd_nI (by decide) hf] at hx
          exact ⟨f, hf, rfl, hx⟩
      obtain ⟨f, hf, rfl, hF⟩ := hxf
      obtain ⟨M, Y', C', F', e1, hM⟩ := c_most hW hf hF Y C F hnn
      obtain ⟨nw', ow', hd', hh', d, e2, e3, hd8, hE, hA, hB, hG⟩ := m_first hI hS hf hF hd nw hh ow
      have hl := lmn_lt (P := P) (C := nw') d
      have hl256 : lmn P nw' d < 256 := Nat.lt_of_lt_of_le hl (pow8 hd8)
      obtain ⟨s1, s2⟩ := c_sets (P := P) (L := Lo P f) (al := fun i => (lmn P nw' d).testBit i) hd8 hE hA hB
      have h := loopI (fun m c (b : Int64) => xX8_most_38 s m (nI nn) (nI (lmn P nw' d)) b (nI c) hd' nw' hh' ow') (MxI (fun c => (∀ j, j < 8 → c.testBit j = true → (lmn P nw' d).testBit j = true) ∧ cnt (fun j => c.testBit j) 8 ≤ nn) (fun c => fre P (Sc nw' d c))) 256 (fun m c b hc hI => by
        have hk := cnt_le (fun j => c.testBit j) 8
        have hsub := bSub hc hl256
        show ∃ b', xX8_most_38 s (m + 1) (nI nn) (nI (lmn P nw' d)) b (nI c) hd' nw' hh' ow' = xX8_most_38 s m (nI nn) (nI (lmn P nw' d)) b' (nI (c + 1)) hd' nw' hh' ow' ∧ _
        rw [xX8_most_38, if_neg (show ¬ (256 : Int32) ≤ nI c by rw [L256, nI_leE (by omega) (by omega)]; omega), show nI c + 1 = nI (c + 1) from nI_succE c]
        by_cases hs : nI c &&& (nI (lmn P nw' d) ^^^ (-1)) = 0
        · have hs2 := hsub.mp hs
          rw [if_pos hs, m_countOf hc, bn1_s, hG c (sub_lt hc hl hs2), bn1_s]
          by_cases ho : nn < cnt (fun j => c.testBit j) 8
          · rw [if_pos (by rw [nI_ltE (by omega) (by omega)]; exact ho)]
            exact ⟨b, rfl, MxI_no hI (Or.inl (fun w => by omega))⟩
          · rw [if_neg (by rw [nI_ltE (by omega) (by omega)]; exact ho)]
            by_cases hle : lg_cmp (fre P (Sc nw' d c)) b ≤ 0
            · rw [if_pos hle]
              rw [lg_cmp_le, i64_le] at hle
              exact ⟨b, rfl, MxI_no hI (Or.inr hle)⟩
            · rw [if_neg hle]
              rw [lg_cmp_le, i64_le] at hle
              exact ⟨_, rfl, MxI_yes hI ⟨hs2, by omega⟩ (by show b.toInt ≤ (fre P (Sc nw' d c)).toInt; omega)⟩
        · rw [if_neg hs]
          exact ⟨b, rfl, MxI_no hI (Or.inl (fun w => hs (hsub.mpr w.1)))⟩) 256 600 0 0 (by omega) (by omega) MxI_0
      obtain ⟨m, N, e4, hN⟩ := h
      have hN2 : MS P (Lo P f) nn N := by
        refine MS_of hN (fun c hc ho => ?_) (fun S hS hc => ?_)
        · obtain ⟨a, b⟩ := s1 c (sub_lt hc hl ho.1) (fun i hi => ho.1 i (by omega))
          exact Or.inr ⟨Sc nw' d c, a, by have := ho.2; omega, rfl⟩
        · obtain ⟨c, h1, h1b, h2, h3⟩ := s2 S hS
          have h256 := pow8 hd8
          refine ⟨c, by omega, ⟨fun j hj hb => ?_, by omega⟩, h2⟩
          rcases Nat.lt_or_ge j d with w | w
          · exact h1b j w hb
          · rw [bit_hi h1 w] at hb; cases hb
      have hMN := MS_uniq hM hN2
      subst hMN
      rw [e1, bn4_s, e2, bn2_s, e3, bn3_s]
      refine ⟨_, _, _, _, hd', nw', hh', ow', rfl, ?_⟩
      refine (show xX8_most_38 s 600 (nI nn) (nI (lmn P nw' d)) 0 (nI 0) hd' nw' hh' ow' = _ from e4).trans ?_
      show xX8_most_38 s (m + 1) (nI nn) (nI (lmn P nw' d)) M (nI 256) hd' nw' hh' ow' = _
      rw [xX8_most_38, if_pos (show (256 : Int32) ≤ nI 256 by decide)]
    · rw [if_neg hx, if_neg hx]
      exact ⟨_, _, _, _, _, _, _, _, rfl, rfl⟩
  · rw [if_neg hy, if_neg hy]
    exact ⟨_, _, _, _, _, _, _, _, rfl, rfl⟩
theorem q_fewest (h : Good P s n) (Y C : RSt) (F : Nat → Int64) (hd nw hh : RSt) (ow x : Int32) (y : Int64) : ∃ r Y' C' F' hd' nw' hh' ow', xX7_fewest P Y C F x y = some (r, Y', C', F') ∧ xX8_fewest s hd nw hh ow x y = some (r, hd', nw', hh', ow') := by
  obtain ⟨hI, hS, -⟩ := h
  have hW := hI.w
  unfold xX7_fewest xX8_fewest
  rw [c_refA, bn1_s, m_asked hS, bn1_s]
  by_cases hr : refA P x 0 = 0
  · rw [if_pos hr, if_pos hr]
    obtain ⟨f, hf, rfl, hkf, hu⟩ := refA_ok hr
    have hF := isF_of hu
    have z0 : (0 : Int64).toInt = 0 := by decide
    by_cases hy : (0 : Int32) < lg_cmp y 0
    · have hy2 : 0 < y.toInt := by
        have := hy
        rw [lg_cmp_gt, i64_lt, z0] at this
        exact this
      obtain ⟨M, Y', C', F', e1, hM⟩ := c_fewest hW hf hF Y C F hy2
      obtain ⟨nw', ow', hd', hh', d, e2, e3, hd8, hE, hA, hB, hG⟩ := m_first hI hS hf hF hd nw hh ow
      have hl := lmn_lt (P := P) (C := nw') d
      have hl256 : lmn P nw' d < 256 := Nat.lt_of_lt_of_le hl (pow8 hd8)
      obtain ⟨s1, s2⟩ := c_sets (P := P) (L := Lo P f) (al := fun i => (lmn P nw' d).testBit i) hd8 hE hA hB
      have h := loopI (fun m c (r : Int32) => xX8_fewest_41 s m y (nI (lmn P nw' d)) r (nI c) hd' nw' hh' ow') (FwI (fun c => ∀ j, j < 8 → c.testBit j = true → (lmn P nw' d).testBit j = true) (fun c => fre P (Sc nw' d c)) y) 256 (fun m c r hc hI => by
        have hk := cnt_le (fun j => c.testBit j) 8
        have hsub := bSub hc hl256
        have eT := nI_succE c
        have go : ∀ y0 : Int32, (y0 = 0 → ∃ k, k ≤ 8 ∧ r = nI k ∧ k ≤ cnt (fun j => c.testBit j) 8) → (y0 ≠ 0 → r = m1 ∨ ∃ k, k ≤ 8 ∧ r = nI k ∧ cnt (fun j => c.testBit j) 8 ≤ k) → ∃ r', xX8_fewest_71 s (xX8_fewest_41 s m) y (nI (lmn P nw' d)) r (nI c) y0 hd' nw' hh' ow' = xX8_fewest_41 s m y (nI (lmn P nw' d)) r' (nI (c + 1)) hd' nw' hh' ow' ∧ FwI (fun c => ∀ j, j < 8 → c.testBit j = true → (lmn P nw' d).testBit j = true) (fun c => fre P (Sc nw' d c)) y (c + 1) r' := by
          intro y0 g1 g2
          unfold xX8_fewest_71
          rw [show nI c + 1 = nI (c + 1) from eT]
          by_cases hs : nI c &&& (nI (lmn P nw' d) ^^^ (-1)) = 0
          · have hs2 := hsub.mp hs
            rw [if_pos hs]
            by_cases h0 : y0 = 0
            · rw [if_pos h0]
              exact ⟨r, rfl, FwI_no hI (fun _ _ => g1 h0)⟩
            · rw [if_neg h0, hG c (sub_lt hc hl hs2), bn1_s, m_countOf hc, bn1_s]
              by_cases hlt : lg_cmp (fre P (Sc nw' d c)) y < 0
              · rw [if_pos hlt]
                rw [lg_cmp_lt, i64_lt] at hlt
                exact ⟨r, rfl, FwI_no hI (fun _ (w : y.toInt ≤ (fre P (Sc nw' d c)).toInt) => by omega)⟩
              · rw [if_neg hlt]
                rw [lg_cmp_lt, i64_lt] at hlt
                exact ⟨_, rfl, FwI_yes hI hs2 (by show y.toInt ≤ (fre P (Sc nw' d c)).toInt; omega) (g2 h0)⟩
          · rw [if_neg hs]
            exact ⟨r, rfl, FwI_no hI (fun w => absurd (hsub.mpr w) hs)⟩
        show ∃ r', xX8_fewest_41 s (m + 1) y (nI (lmn P nw' d)) r (nI c) hd' nw' hh' ow' = xX8_fewest_41 s m y (nI (lmn P nw' d)) r' (nI (c + 1)) hd' nw' hh' ow' ∧ _
        rw [xX8_fewest_41, if_neg (show ¬ (256 : Int32) ≤ nI c by rw [L256, nI_leE (by omega) (by omega)]; omega)]
        by_cases hr1 : r = -1
        · rw [if_pos hr1]
          exact go 1 (fun w => absurd w one_ne) (fun _ => Or.inl hr1)
        · rw [if_neg hr1, m_countOf hc, bn1_s]
          obtain ⟨k, hk8, ek⟩ : ∃ k, k ≤ 8 ∧ r = nI k := by
            rcases hI with ⟨w, -⟩ | ⟨k, hk8, ek, -⟩
            · exact absurd w hr1
            · exact ⟨k, hk8, ek⟩
          by_cases hle : k ≤ cnt (fun j => c.testBit j) 8
          · rw [if_pos (by rw [ek, nI_leE (by omega) (by omega)]; exact hle)]
            exact go 0 (fun _ => ⟨k, hk8, ek, hle⟩) (fun w => absurd rfl w)
          · rw [if_neg (by rw [ek, nI_leE (by omega) (by omega)]; exact hle)]
            exact go 1 (fun w => absurd w one_ne) (fun _ => Or.inr ⟨k, hk8, ek, by omega⟩)) 256 600 0 m1 (by omega) (by omega) FwI_0
      obtain ⟨m, N, e4, hN⟩ := h
      have hN2 : FS P (Lo P f) y N := by
        refine FS_of hy2 hN (fun c hc ho => ?_) (fun S hS => ?_)
        · obtain ⟨a, b⟩ := s1 c (sub_lt hc hl ho) (fun i hi => ho i (by omega))
          exact Or.inr ⟨Sc nw' d c, a, b, rfl⟩
        · obtain ⟨c, h1, h1b, h2, h3⟩ := s2 S hS
          have h256 := pow8 hd8
          refine ⟨c, by omega, fun j hj hb => ?_, h2, h3⟩
          rcases Nat.lt_or_ge j d with w | w
          · exact h1b j w hb
          · rw [bit_hi h1 w] at hb; cases hb
      have hMN := FS_uniq hM hN2
      subst hMN
      rw [e1, bn4_s, if_pos hy, e2, bn2_s, e3, bn3_s]
      refine ⟨_, _, _, _, hd', nw', hh', ow', rfl, ?_⟩
      refine (show xX8_fewest_41 s 600 y (nI (lmn P nw' d)) m1 (nI 0) hd' nw' hh' ow' = _ from e4).trans ?_
      show xX8_fewest_41 s (m + 1) y (nI (lmn P nw' d)) M (nI 256) hd' nw' hh' ow' = _
      rw [xX8_fewest_41, if_pos (show (256 : Int32) ≤ nI 256 by decide)]
    · rw [if_neg hy]
      unfold xX1_fewestFor
      rw [if_neg hy, bn4_s]
      exact ⟨_, _, _, _, _, _, _, _, rfl, rfl⟩
  · rw [if_neg hr, if_neg hr]
    exact ⟨_, _, _, _, _, _, _, _, rfl, rfl⟩
end
