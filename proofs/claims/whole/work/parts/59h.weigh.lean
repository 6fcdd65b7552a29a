/-! ===== the class weighs each set of candidates ===== -/
/-- x goes within c: by the bits below i, and is the same above -/
def sbb (i x c : Nat) : Bool := decide (cnt (fun j => if j < i then x.testBit j && !(c.testBit j) else x.testBit j ^^ c.testBit j) 8 = 0)
theorem sbb_iff {i x c : Nat} : sbb i x c = true ↔ ∀ j, j < 8 → (j < i → x.testBit j = true → c.testBit j = true) ∧ (i ≤ j → x.testBit j = c.testBit j) := by
  unfold sbb
  rw [decide_eq_true_eq, cnt_zero]
  constructor
  · intro h j hj
    have := h j hj
    refine ⟨fun hi hx => ?_, fun hi => ?_⟩
    · rw [if_pos hi, hx] at this
      cases hc : c.testBit j with
      | true => rfl
      | false => rw [hc] at this; cases this
    · rw [if_neg (by omega)] at this
      cases hx : x.testBit j <;> cases hc : c.testBit j <;> rw [hx, hc] at this <;> first | rfl | cases this
  · intro h j hj
    by_cases hi : j < i
    · rw [if_pos hi]
      cases hx : x.testBit j with
      | false => rfl
      | true => rw [(h j hj).1 hi hx]; rfl
    · rw [if_neg hi, (h j hj).2 (by omega)]
      cases c.testBit j <;> rfl
theorem sbb_0 {x c : Nat} (hx : x < 256) (hc : c < 256) : sbb 0 x c = true ↔ x = c := by
  rw [sbb_iff]
  constructor
  · intro h
    exact bits_eq hx hc (fun j hj => (h j hj).2 (by omega))
  · intro h j hj
    subst h
    exact ⟨fun w => by omega, fun _ => rfl⟩
theorem sbb_no {i x c : Nat} (hb : c.testBit i = false) : sbb (i + 1) x c = sbb i x c := by
  rw [Bool.eq_iff_iff, sbb_iff, sbb_iff]
  constructor
  · intro h j hj
    refine ⟨fun w => (h j hj).1 (by omega), fun w => ?_⟩
    by_cases e : j = i
    · subst e
      rw [hb]
      cases hx : x.testBit j with
      | false => rfl
      | true => have := (h j hj).1 (by omega) hx; rw [hb] at this; cases this
    · exact (h j hj).2 (by omega)
  · intro h j hj
    refine ⟨fun w hx => ?_, fun w => (h j hj).2 (by omega)⟩
    by_cases e : j = i
    · subst e
      rw [← (h j hj).2 (by omega)]
      exact hx
    · exact (h j hj).1 (by omega) hx
theorem sbb_yes {i x c c' : Nat} (hi : i < 8) (hb : c.testBit i = true) (hc : ∀ j, j < 8 → c'.testBit j = (c.testBit j && !(decide (j = i)))) (v : Int64) : (if sbb (i + 1) x c then v else 0) = (if sbb i x c then v else 0) + (if sbb i x c' then v else 0) := by
  have hci : c'.testBit i = false := by rw [hc i hi, decide_eq_true rfl]; exact Bool.and_false _
  have hcj : ∀ j, j < 8 → j ≠ i → c'.testBit j = c.testBit j := fun j hj e => by rw [hc j hj, decide_eq_false e]; exact Bool.and_true _
  cases hx : x.testBit i with
  | true =>
    have h1 : sbb i x c' = false := by
      cases hq : sbb i x c' with
      | false => rfl
      | true => have := (sbb_iff.mp hq i hi).2 (by omega); rw [hx, hci] at this; cases this
    have h2 : sbb (i + 1) x c = sbb i x c := by
      rw [Bool.eq_iff_iff, sbb_iff, sbb_iff]
      constructor
      · intro h j hj
        refine ⟨fun w => (h j hj).1 (by omega), fun w => ?_⟩
        by_cases e : j = i
        · subst e; rw [hx, hb]
        · exact (h j hj).2 (by omega)
      · intro h j hj
        refine ⟨fun w hx2 => ?_, fun w => (h j hj).2 (by omega)⟩
        by_cases e : j = i
        · subst e; exact hb
        · exact (h j hj).1 (by omega) hx2
    rw [h1, h2, if_neg (show ¬ (false = true) by decide), L64_0]
  | false =>
    have h1 : sbb i x c = false := by
      cases hq : sbb i x c with
      | false => rfl
      | true => have := (sbb_iff.mp hq i hi).2 (by omega); rw [hx, hb] at this; cases this
    have h2 : sbb (i + 1) x c = sbb i x c' := by
      rw [Bool.eq_iff_iff, sbb_iff, sbb_iff]
      constructor
      · intro h j hj
        by_cases e : j = i
        · subst e
          exact ⟨fun w => by omega, fun w => by rw [hx, hci]⟩
        · rw [hcj j hj e]
          exact ⟨fun w => (h j hj).1 (by omega), fun w => (h j hj).2 (by omega)⟩
      · intro h j hj
        by_cases e : j = i
        · subst e
          exact ⟨fun w hx2 => hb, fun w => by omega⟩
        · have := h j hj
          rw [hcj j hj e] at this
          exact ⟨fun w => this.1 (by omega), fun w => this.2 (by omega)⟩
    rw [h1, h2, if_neg (show ¬ (false = true) by decide), Z64]
section
variable {P : PSt} {s : RSt} {n : Nat}
/-- what stands at a set while bits below i are let be missing -/
def Gi (P : PSt) (C : RSt) (d i c : Nat) : Int64 := sumL (fun b => if alb P (ful C d) b then (if sbb i (cbn P C b d) c then (P 7 b).toInt64 else 0) else 0) 96
theorem Gi_no {C : RSt} {d i c : Nat} (hb : c.testBit i = false) : Gi P C d (i + 1) c = Gi P C d i c := sumL_cong (fun b _ => by rw [sbb_no hb])
theorem Gi_yes {C : RSt} {d i c c' : Nat} (hi : i < 8) (hb : c.testBit i = true) (hc : ∀ j, j < 8 → c'.testBit j = (c.testBit j && !(decide (j = i)))) : Gi P C d (i + 1) c = Gi P C d i c + Gi P C d i c' := by
  unfold Gi
  rw [← sumL_add]
  refine sumL_cong (fun b _ => ?_)
  by_cases h : alb P (ful C d) b = true
  · rw [if_pos h, if_pos h, if_pos h, sbb_yes hi hb hc]
  · rw [if_neg h, if_neg h, if_neg h]
    exact (L64_0 0).symm
theorem Gi_fre {C : RSt} {d c : Nat} (hC : Enm C d) (hd : d ≤ 8) (hc : c < 256) : Gi P C d d c = if c < 2 ^ d then fre P (Sc C d c) else 0 := by
  have hcl : ∀ i x, x < 20 → C i = nI x → (C i).toNatClampNeg = x := fun i x hx e => by rw [e, nI_clE (by omega)]
  by_cases h : c < 2 ^ d
  · rw [if_pos h]
    refine sumL_cong (fun b _ => ?_)
    have key : (alb P (ful C d) b = true ∧ sbb d (cbn P C b d) c = true) ↔ alb P (Sc C d c) b = true := by
      rw [alb_iff, alb_iff, sbb_iff]
      constructor
      · rintro ⟨h1, h2⟩ t ht hh
        obtain ⟨i, hi, ei⟩ := ful_iff.mp (h1 t ht hh)
        refine Sc_iff.mpr ⟨i, hi, (h2 i (by omega)).1 hi ?_, ei⟩
        rw [cbn_bit d hi, hcl i t ht ei]
        exact hh
      · intro h1
        refine ⟨fun t ht hh => ?_, fun j hj => ⟨fun w hx => ?_, fun w => ?_⟩⟩
        · obtain ⟨i, hi, -, ei⟩ := Sc_iff.mp (h1 t ht hh)
          exact ful_iff.mpr ⟨i, hi, ei⟩
        · obtain ⟨x, hx20, ex⟩ := hC.1 j w
          rw [cbn_bit d w, hcl j x hx20 ex] at hx
          obtain ⟨i, hi, hb, ei⟩ := Sc_iff.mp (h1 x hx20 hx)
          have := Enm_inj hC hi w (ei.trans ex.symm)
          subst this
          exact hb
        · rw [bit_hi (cbn_lt d) w, bit_hi h w]
    by_cases h1 : alb P (ful C d) b = true
    · rw [if_pos h1]
      by_cases h2 : sbb d (cbn P C b d) c = true
      · rw [if_pos h2, if_pos (key.mp ⟨h1, h2⟩)]
      · rw [if_neg h2, if_neg (fun w => h2 (key.mpr w).2)]
    · rw [if_neg h1, if_neg (fun w => h1 (key.mpr w).1)]
  · rw [if_neg h]
    refine sumL_zero (fun b _ => ?_)
    have h2 : ¬ sbb d (cbn P C b d) c = true := by
      intro w
      refine h (Nat.lt_pow_two_of_testBit c (fun i hi => ?_))
      rcases Nat.lt_or_ge i 8 with q | q
      · rw [← (sbb_iff.mp w i q).2 hi]
        exact bit_hi (cbn_lt d) hi
      · exact bit_hi (d := 8) hc q
    rw [if_neg h2]
    split <;> rfl
theorem c_add9 {C : RSt} {d i : Nat} (hi : i < 8) (x1 : Int32) (kf : Int32 → Int32 → (Nat → Int64) → Option (Nat → Int64)) (F : Nat → Int64) (hF : ∀ c, c < 256 → F c = Gi P C d i c) : ∃ F', xX1_addSubsets_9 kf 600 x1 (nI i) 0 F = kf x1 (nI (i + 1)) F' ∧ ∀ c, c < 256 → F' c = Gi P C d (i + 1) c := by
  have h := loopI (fun m c (F : Nat → Int64) => xX1_addSubsets_9 kf m x1 (nI i) (nI c) F) (fun c F => ∀ e, e < 256 → F e = if e < c then Gi P C d (i + 1) e else Gi P C d i e) 256 (fun m c F hc hI => by
    have ec : nI c + 1 = nI (c + 1) := nI_succE c
    show ∃ F', xX1_addSubsets_9 kf (m + 1) x1 (nI i) (nI c) F = xX1_addSubsets_9 kf m x1 (nI i) (nI (c + 1)) F' ∧ _
    rw [xX1_addSubsets_9, if_neg (show ¬ (256 : Int32) ≤ nI c by rw [L256, nI_leE (by omega) (by omega)]; omega), ec]
    cases hb : c.testBit i with
    | false =>
      rw [if_pos ((bA c hc i hi).mpr hb)]
      refine ⟨F, rfl, fun e he => ?_⟩
      rw [hI e he]
      by_cases w : e < c
      · rw [if_pos w, if_pos (by omega)]
      · by_cases w2 : e = c
        · subst w2
          rw [if_neg w, if_pos (by omega), Gi_no hb]
        · rw [if_neg w, if_neg (by omega)]
    | true =>
      obtain ⟨b1, b2⟩ := bB c hc i hi hb
      have hG := Gi_yes (P := P) (C := C) (d := d) hi hb (bB2 c hc i hi hb)
      have hci : (c - 2 ^ i).testBit i = false := by rw [bB2 c hc i hi hb i hi, decide_eq_true rfl]; exact Bool.and_false _
      generalize c - 2 ^ i = c' at b1 b2 hG hci
      rw [if_neg (fun w => by rw [(bA c hc i hi).mp w] at hb; cases hb), b1, ix_nI (by omega) (by omega), grd_t, ix_nI (by omega) (by omega), grd_t, grd_t, lt1_s, nI_clE (by omega), nI_clE (by omega)]
      refine ⟨_, rfl, fun e he => ?_⟩
      by_cases w2 : e = c
      · subst w2
        rw [pk_uLs, if_pos (by omega), hI e he, hI c' (by omega), if_neg (by omega), if_pos b2, hG, Gi_no hci]
      · rw [pk_uLn w2, hI e he]
        by_cases w : e < c
        · rw [if_pos w, if_pos (by omega)]
        · rw [if_neg w, if_neg (by omega)]) 256 600 0 F (by omega) (by omega) (fun e he => by rw [if_neg (by omega)]; exact hF e he)
  obtain ⟨m, F', e, hF'⟩ := h
  refine ⟨F', ?_, fun c hc => ?_⟩
  · refine (show xX1_addSubsets_9 kf 600 x1 (nI i) (nI 0) F = _ from e).trans ?_
    show xX1_addSubsets_9 kf (m + 1) x1 (nI i) (nI 256) F' = _
    rw [xX1_addSubsets_9, if_pos (show (256 : Int32) ≤ nI 256 by decide), show nI i + 1 = nI (i + 1) from nI_succE i]
  · rw [hF' c hc, if_pos hc]
theorem c_addSubsets {C : RSt} {d : Nat} (hd : d ≤ 8) (F : Nat → Int64) (hF : ∀ c, c < 256 → F c = Gi P C d 0 c) : ∃ F', xX1_addSubsets F (nI d) = some F' ∧ ∀ c, c < 256 → F' c = Gi P C d d c := by
  have h := loopI (fun m i (F : Nat → Int64) => xX1_addSubsets_2 m (nI d) (nI i) F) (fun i F => ∀ c, c < 256 → F c = Gi P C d i c) d (fun m i F hi hI => by
    obtain ⟨F', e, h⟩ := c_add9 (P := P) (C := C) (d := d) (i := i) (by omega) (nI d) (xX1_addSubsets_2 m) F hI
    refine ⟨F', ?_, h⟩
    refine Eq.trans ?_ e
    show xX1_addSubsets_2 (m + 1) (nI d) (nI i) F = _
    rw [xX1_addSubsets_2, if_neg (by rw [nI_leE (by omega) (by omega)]; omega)]) d 600 0 F (by omega) (by omega) hF
  obtain ⟨m, F', e, hF'⟩ := h
  refine ⟨F', ?_, hF'⟩
  unfold xX1_addSubsets
  refine (show xX1_addSubsets_2 600 (nI d) (nI 0) F = _ from e).trans ?_
  show xX1_addSubsets_2 (m + 1) (nI d) (nI d) F' = _
  rw [xX1_addSubsets_2, if_pos (by rw [nI_leE (by omega) (by omega)]; omega)]
theorem c_weigh37 {C X : RSt} {d : Nat} (hC : Enm C d) (hd : d ≤ 8) (hX : ∀ b, b < 96 → ∀ i, i < 32 → qb (X b) i = (decide (i < 20) && hdb P i b)) (F : Nat → Int64) (hF : ∀ c, c < 256 → F c = 0) : ∃ F', xX1_weigh_37 P 600 (nI d) 0 X C F = some (X, C, F') ∧ ∀ c, c < 256 → F' c = Gi P C d d c := by
  have h := loopI (fun m b (F : Nat → Int64) => xX1_weigh_37 P m (nI d) (nI b) X C F) (fun i F => ∀ c, c < 256 → F c = sumL (fun b => if alb P (ful C d) b then (if sbb 0 (cbn P C b d) c then (P 7 b).toInt64 else 0) else 0) i) 96 (fun m b F hb hI => by
    have eb : nI b + 1 = nI (b + 1) := nI_succE b
    have hy : cbn P C b d < 256 := Nat.lt_of_lt_of_le (cbn_lt d) (pow8 hd)
    show ∃ F', xX1_weigh_37 P (m + 1) (nI d) (nI b) X C F = xX1_weigh_37 P m (nI d) (nI (b + 1)) X C F' ∧ _
    rw [xX1_weigh_37, if_neg (show ¬ (96 : Int32) ≤ nI b by rw [L96, nI_leE (by omega) (by omega)]; omega), c_setOf hb, bn1_s, c_alone hC hd (hX b hb), bn1_s, eb]
    by_cases h1 : alb P (ful C d) b = true
    · rw [if_pos h1]
      have hsb : ∀ c, c < 256 → (sbb 0 (cbn P C b d) c = true ↔ cbn P C b d = c) := fun c hc => sbb_0 hy hc
      rw [if_neg (show ¬ nI (cbn P C b d) = -1 by intro w; rw [show (-1 : Int32) = m1 from rfl, nI_m1 (by omega)] at w; exact w), if_neg (show ¬ (256 : Int32) ≤ nI (cbn P C b d) by rw [L256, nI_leE (by omega) (by omega)]; omega), ix_nI (by omega) (by omega), grd_t, c_sizeOf, bn1_s, rd_nI (by decide) hb, grd_t, lt1_s, nI_clE (by omega)]
      refine ⟨_, rfl, fun c hc => ?_⟩
      rw [sumL_s, if_pos h1]
      by_cases e : c = cbn P C b d
      · rw [if_pos ((hsb c hc).mpr e.symm), e, pk_uLs, hI _ hy]
      · rw [if_neg (fun w => e ((hsb c hc).mp w).symm), pk_uLn e, hI c hc, L64_0]
    · rw [if_neg h1, if_pos (show m1 = -1 from rfl)]
      refine ⟨F, rfl, fun c hc => ?_⟩
      rw [sumL_s, if_neg h1, L64_0]
      exact hI c hc) 96 600 0 F (by omega) (by omega) (fun c hc => hF c hc)
  obtain ⟨m, F1, e, h1⟩ := h
  obtain ⟨F2, e2, h2⟩ := c_addSubsets (P := P) (C := C) hd F1 h1
  refine ⟨F2, ?_, h2⟩
  refine (show xX1_weigh_37 P 600 (nI d) (nI 0) X C F = _ from e).trans ?_
  show xX1_weigh_37 P (m + 1) (nI d) (nI 96) X C F1 = _
  rw [xX1_weigh_37, if_pos (show (96 : Int32) ≤ nI 96 by decide), e2, bn1_s]
end
