/-! ===== the class's most and fewest ===== -/
section
variable {P : PSt} {s : RSt} {n : Nat}
theorem c_weigh (hW : WInv P) {f : Nat} (hf : f < 20) (hF : isF P f) (X C : RSt) (F : Nat → Int64) : ∃ X' C' F' d, xX1_weigh P X C F (nI f) = some (X', C', F') ∧ d ≤ 8 ∧ Enm C' d ∧ (∀ i x, i < d → x < 20 → C' i = nI x → Lo P f x) ∧ (∀ x, x < 20 → Lo P f x → ∃ i, i < d ∧ C' i = nI x) ∧ ∀ c, c < 256 → F' c = if c < 2 ^ d then fre P (Sc C' d c) else 0 := by
  obtain ⟨d, C', e1, hd, hE, hA, hB⟩ := c_find hW hf hF C
  have h := loopI (fun m c (F : Nat → Int64) => xX1_weigh_8 P m (nI d) (nI c) X C' F) (fun i F => ∀ c, c < i → F c = 0) 256 (fun m c F hc hI => ⟨vp_updL F c 0, by
    show xX1_weigh_8 P (m + 1) (nI d) (nI c) X C' F = _
    rw [xX1_weigh_8, if_neg (show ¬ (256 : Int32) ≤ nI c by rw [L256, nI_leE (by omega) (by omega)]; omega), ix_nI (by omega) (by omega), grd_t, lt1_s, nI_clE (by omega), show nI c + 1 = nI (c + 1) from nI_succE c], fun j hj => by
    by_cases e : j = c
    · rw [e, pk_uLs]
    · rw [pk_uLn e]; exact hI j (by omega)⟩) 256 600 0 F (by omega) (by omega) (fun c hc => absurd hc (Nat.not_lt_zero c))
  obtain ⟨m, F1, e2, h1⟩ := h
  obtain ⟨X', e3, hX⟩ := c_look hW X
  obtain ⟨F2, e4, h2⟩ := c_weigh37 hE hd hX F1 h1
  refine ⟨X', C', F2, d, ?_, hd, hE, hA, hB, fun c hc => (h2 c hc).trans (Gi_fre hE hd hc)⟩
  unfold xX1_weigh
  rw [e1, bn2_s]
  refine (show xX1_weigh_8 P 600 (nI d) (nI 0) X C' F = _ from e2).trans ?_
  show xX1_weigh_8 P (m + 1) (nI d) (nI 256) X C' F1 = _
  rw [xX1_weigh_8, if_pos (show (256 : Int32) ≤ nI 256 by decide), e3, bn1_s, e4]
theorem c_sets {L : Nat → Prop} {C : RSt} {d : Nat} {al : Nat → Bool} (hd : d ≤ 8) (hE : Enm C d) (hA : ∀ i x, i < d → al i = true → x < 20 → C i = nI x → L x) (hB : ∀ x, x < 20 → L x → ∃ i, i < d ∧ al i = true ∧ C i = nI x) : (∀ c, c < 2 ^ d → (∀ i, i < d → c.testBit i = true → al i = true) → Adm L (Sc C d c) ∧ cnt (Sc C d c) 20 = cnt (fun j => c.testBit j) 8) ∧ ∀ S, Adm L S → ∃ c, c < 2 ^ d ∧ (∀ i, i < d → c.testBit i = true → al i = true) ∧ fre P (Sc C d c) = fre P S ∧ cnt S 20 = cnt (fun j => c.testBit j) 8 := by
  refine ⟨fun c hc ha => ⟨set_to (P := P) hA ha, (Sc_cnt d hE).trans (cnt_bits hc hd).symm⟩, fun S hS => ?_⟩
  obtain ⟨c, hc, ha, he⟩ := set_from hE hB hS
  refine ⟨c, hc, ha, fre_cong he, ?_⟩
  rw [cnt_bits hc hd, ← Sc_cnt d hE]
  exact cnt_cong (fun t ht => (he t ht).symm)
theorem c_most (hW : WInv P) {f : Nat} (hf : f < 20) (hF : isF P f) (X C : RSt) (F : Nat → Int64) {nn : Nat} (hn : nn ≤ 8) : ∃ M X' C' F', xX1_mostFreed P X C F (nI f) (nI nn) = some (M, X', C', F') ∧ MS P (Lo P f) nn M := by
  obtain ⟨X', C', F', d, e1, hd, hE, hA, hB, hF'⟩ := c_weigh hW hf hF X C F
  obtain ⟨s1, s2⟩ := c_sets (P := P) (L := Lo P f) (al := fun _ => true) hd hE (fun i x hi _ hx e => hA i x hi hx e) (fun x hx hl => by
    obtain ⟨i, hi, e⟩ := hB x hx hl
    exact ⟨i, hi, rfl, e⟩)
  have h := loopI (fun m c (b : Int64) => xX1_mostFreed_10 P m (nI nn) b (nI c) X' C' F') (MxI (fun c => cnt (fun j => c.testBit j) 8 ≤ nn) F') 256 (fun m c b hc hI => by
    have hk := cnt_le (fun j => c.testBit j) 8
    show ∃ b', xX1_mostFreed_10 P (m + 1) (nI nn) b (nI c) X' C' F' = xX1_mostFreed_10 P m (nI nn) b' (nI (c + 1)) X' C' F' ∧ _
    rw [xX1_mostFreed_10, if_neg (show ¬ (256 : Int32) ≤ nI c by rw [L256, nI_leE (by omega) (by omega)]; omega), bD c hc, bn1_s, show nI c + 1 = nI (c + 1) from nI_succE c]
    by_cases ho : nn < cnt (fun j => c.testBit j) 8
    · rw [if_pos (by rw [nI_ltE (by omega) (by omega)]; exact ho)]
      exact ⟨b, rfl, MxI_no hI (Or.inl (by omega))⟩
    · rw [if_neg (by rw [nI_ltE (by omega) (by omega)]; exact ho), ix_nI (by omega) (by omega), grd_t, nI_clE (by omega)]
      by_cases hlt : F' c < b
      · rw [if_pos hlt]
        rw [i64_lt] at hlt
        exact ⟨b, rfl, MxI_no hI (Or.inr (by omega))⟩
      · rw [if_neg hlt]
        rw [i64_lt] at hlt
        exact ⟨F' c, rfl, MxI_yes hI (by omega) (by omega)⟩) 256 600 0 0 (by omega) (by omega) MxI_0
  obtain ⟨m, M, e2, hM⟩ := h
  refine ⟨M, X', C', F', ?_, ?_⟩
  · unfold xX1_mostFreed
    rw [e1, bn3_s]
    refine (show xX1_mostFreed_10 P 600 (nI nn) 0 (nI 0) X' C' F' = _ from e2).trans ?_
    show xX1_mostFreed_10 P (m + 1) (nI nn) M (nI 256) X' C' F' = _
    rw [xX1_mostFreed_10, if_pos (show (256 : Int32) ≤ nI 256 by decide)]
  · refine MS_of hM (fun c hc ho => ?_) (fun S hS hc => ?_)
    · by_cases h : c < 2 ^ d
      · obtain ⟨a, b⟩ := s1 c h (fun _ _ _ => rfl)
        exact Or.inr ⟨Sc C' d c, a, by omega, by rw [hF' c hc, if_pos h]⟩
      · exact Or.inl (by rw [hF' c hc, if_neg h])
    · obtain ⟨c, h1, -, h2, h3⟩ := s2 S hS
      have h256 := pow8 hd
      exact ⟨c, by omega, by omega, by rw [hF' c (by omega), if_pos h1, h2]⟩
theorem c_fewest (hW : WInv P) {f : Nat} (hf : f < 20) (hF : isF P f) (X C : RSt) (F : Nat → Int64) {x : Int64} (hx : 0 < x.toInt) : ∃ r X' C' F', xX1_fewestFor P X C F (nI f) x = some (r, X', C', F') ∧ FS P (Lo P f) x r := by
  obtain ⟨X', C', F', d, e1, hd, hE, hA, hB, hF'⟩ := c_weigh hW hf hF X C F
  obtain ⟨s1, s2⟩ := c_sets (P := P) (L := Lo P f) (al := fun _ => true) hd hE (fun i x hi _ hx e => hA i x hi hx e) (fun x hx hl => by
    obtain ⟨i, hi, e⟩ := hB x hx hl
    exact ⟨i, hi, rfl, e⟩)
  have z0 : (0 : Int64).toInt = 0 := by decide
  have h := loopI (fun m c (r : Int32) => xX1_fewestFor_19 P m x r (nI c) X' C' F') (FwI (fun _ => True) F' x) 256 (fun m c r hc hI => by
    have hk := cnt_le (fun j => c.testBit j) 8
    show ∃ r', xX1_fewestFor_19 P (m + 1) x r (nI c) X' C' F' = xX1_fewestFor_19 P m x r' (nI (c + 1)) X' C' F' ∧ _
    rw [xX1_fewestFor_19, if_neg (show ¬ (256 : Int32) ≤ nI c by rw [L256, nI_leE (by omega) (by omega)]; omega), bD c hc, bn1_s, show nI c + 1 = nI (c + 1) from nI_succE c, ix_nI (by omega) (by omega), grd_t, nI_clE (by omega)]
    by_cases hlt : lg_cmp (F' c) x < 0
    · rw [if_pos hlt]
      rw [lg_cmp_lt, i64_lt] at hlt
      exact ⟨r, rfl, FwI_no hI (fun _ w => by omega)⟩
    · rw [if_neg hlt]
      rw [lg_cmp_lt, i64_lt] at hlt
      by_cases hr : r = -1
      · rw [if_pos hr]
        exact ⟨_, rfl, FwI_yes hI trivial (by omega) (Or.inl hr)⟩
      · rw [if_neg hr]
        obtain ⟨k, hk8, ek⟩ : ∃ k, k ≤ 8 ∧ r = nI k := by
          rcases hI with ⟨w, -⟩ | ⟨k, hk8, ek, -⟩
          · exact absurd w hr
          · exact ⟨k, hk8, ek⟩
        by_cases hle : k ≤ cnt (fun j => c.testBit j) 8
        · rw [if_pos (by rw [ek, nI_leE (by omega) (by omega)]; exact hle)]
          exact ⟨r, rfl, FwI_no hI (fun _ _ => ⟨k, hk8, ek, hle⟩)⟩
        · rw [if_neg (by rw [ek, nI_leE (by omega) (by omega)]; exact hle)]
          exact ⟨_, rfl, FwI_yes hI trivial (by omega) (Or.inr ⟨k, hk8, ek, by omega⟩)⟩) 256 600 0 m1 (by omega) (by omega) FwI_0
  obtain ⟨m, r, e2, hM⟩ := h
  refine ⟨r, X', C', F', ?_, ?_⟩
  · unfold xX1_fewestFor
    rw [if_pos (by rw [lg_cmp_gt, i64_lt, z0]; exact hx), e1, bn3_s]
    refine (show xX1_fewestFor_19 P 600 x m1 (nI 0) X' C' F' = _ from e2).trans ?_
    show xX1_fewestFor_19 P (m + 1) x r (nI 256) X' C' F' = _
    rw [xX1_fewestFor_19, if_pos (show (256 : Int32) ≤ nI 256 by decide)]
  · refine FS_of hx hM (fun c hc ho => ?_) (fun S hS => ?_)
    · by_cases h : c < 2 ^ d
      · obtain ⟨a, b⟩ := s1 c h (fun _ _ _ => rfl)
        exact Or.inr ⟨Sc C' d c, a, b, by rw [hF' c hc, if_pos h]⟩
      · exact Or.inl (by rw [hF' c hc, if_neg h])
    · obtain ⟨c, h1, -, h2, h3⟩ := s2 S hS
      have h256 := pow8 hd
      exact ⟨c, by omega, trivial, by rw [hF' c (by omega), if_pos h1, h2], h3⟩
end
