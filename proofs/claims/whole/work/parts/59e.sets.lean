/-! ===== sets of things, by bits over an enumeration; what is the most, what the fewest ===== -/
def Enm (C : RSt) (d : Nat) : Prop := (∀ i, i < d → ∃ x, x < 20 ∧ C i = nI x) ∧ ∀ i j, i < j → j < d → C i ≠ C j
def Sc (C : RSt) (d c t : Nat) : Bool := decide (0 < cnt (fun i => c.testBit i && decide (C i = nI t)) d)
theorem Sc_iff {C : RSt} {d c t : Nat} : Sc C d c t = true ↔ ∃ i, i < d ∧ c.testBit i = true ∧ C i = nI t := by
  unfold Sc
  rw [decide_eq_true_eq, cnt_pos]
  constructor
  · rintro ⟨i, hi, h⟩
    rw [Bool.and_eq_true, decide_eq_true_eq] at h
    exact ⟨i, hi, h.1, h.2⟩
  · rintro ⟨i, hi, h1, h2⟩
    exact ⟨i, hi, by rw [Bool.and_eq_true, decide_eq_true_eq]; exact ⟨h1, h2⟩⟩
theorem Enm_mono {C : RSt} {d e : Nat} (h : Enm C d) (he : e ≤ d) : Enm C e := ⟨fun i hi => h.1 i (by omega), fun i j hij hj => h.2 i j hij (by omega)⟩
theorem Enm_inj {C : RSt} {d i j : Nat} (h : Enm C d) (hi : i < d) (hj : j < d) (e : C i = C j) : i = j := by
  rcases Nat.lt_trichotomy i j with c | c | c
  · exact absurd e (h.2 i j c hj)
  · exact c
  · exact absurd e.symm (h.2 j i c hi)
theorem Sc_cnt {C : RSt} {c : Nat} : ∀ d, Enm C d → cnt (Sc C d c) 20 = cnt (fun i => c.testBit i) d
  | 0, _ => cnt_zero.mpr (fun t _ => rfl)
  | d + 1, h => by
    have ih := Sc_cnt (c := c) d (Enm_mono h (by omega))
    obtain ⟨x, hx, ex⟩ := h.1 d (by omega)
    rw [cnt_s (fun i => c.testBit i) d, ← ih]
    cases hb : c.testBit d with
    | false =>
      simp only [Bool.false_eq_true, if_false, Nat.add_zero]
      refine cnt_cong (fun t ht => ?_)
      rw [Bool.eq_iff_iff, Sc_iff, Sc_iff]
      constructor
      · rintro ⟨i, hi, h1, h2⟩
        rcases Nat.lt_succ_iff_lt_or_eq.mp hi with q | q
        · exact ⟨i, q, h1, h2⟩
        · subst q; rw [hb] at h1; cases h1
      · rintro ⟨i, hi, h1, h2⟩
        exact ⟨i, by omega, h1, h2⟩
    | true =>
      simp only [if_true]
      refine cnt_add1 (i := x) hx (fun t ht hne => ?_) ?_ ?_
      · rw [Bool.eq_iff_iff, Sc_iff, Sc_iff]
        constructor
        · rintro ⟨i, hi, h1, h2⟩
          rcases Nat.lt_succ_iff_lt_or_eq.mp hi with q | q
          · exact ⟨i, q, h1, h2⟩
          · subst q
            exact absurd (nI_lt_inj (by omega) (by omega) (h2.symm.trans ex)) hne
        · rintro ⟨i, hi, h1, h2⟩
          exact ⟨i, by omega, h1, h2⟩
      · exact Sc_iff.mpr ⟨d, by omega, hb, ex⟩
      · cases hq : Sc C d c x with
        | false => rfl
        | true =>
          obtain ⟨i, hi, -, h2⟩ := Sc_iff.mp hq
          exact absurd (h2.trans ex.symm) (h.2 i d hi (by omega))
theorem bits_ex : ∀ (d : Nat) (p : Nat → Bool), ∃ c, c < 2 ^ d ∧ ∀ i, i < d → c.testBit i = p i
  | 0, _ => ⟨0, by decide, fun i hi => by omega⟩
  | d + 1, p => by
    obtain ⟨c, hc, h⟩ := bits_ex d (fun i => p (i + 1))
    refine ⟨2 * c + (p 0).toNat, ?_, ?_⟩
    · rw [Nat.pow_succ]
      cases p 0 <;> simp <;> omega
    · intro i hi
      cases i with
      | zero => rw [Nat.testBit_zero]; cases hp : p 0 <;> simp <;> omega
      | succ i =>
        rw [Nat.testBit_succ, show (2 * c + (p 0).toNat) / 2 = c by cases p 0 <;> simp <;> omega]
        exact h i (by omega)
theorem bit_hi {c d i : Nat} (h : c < 2 ^ d) (hi : d ≤ i) : c.testBit i = false := Nat.testBit_lt_two_pow (Nat.lt_of_lt_of_le h (Nat.pow_le_pow_right (by decide) hi))
theorem pow8 {d : Nat} (h : d ≤ 8) : 2 ^ d ≤ 256 := Nat.pow_le_pow_right (n := 2) (by decide) h
theorem cnt_bits {c d : Nat} (h : c < 2 ^ d) (hd : d ≤ 8) : cnt (fun i => c.testBit i) 8 = cnt (fun i => c.testBit i) d := by
  have := cnt_sum (p := fun i => c.testBit i) (a := d) (8 - d)
  rw [show d + (8 - d) = 8 by omega] at this
  have z : cnt (fun i => c.testBit (d + i)) (8 - d) = 0 := cnt_zero.mpr (fun i hi => bit_hi h (by omega))
  rw [this, z]
  rfl
theorem bits_eq {x c : Nat} (hx : x < 256) (hc : c < 256) (h : ∀ j, j < 8 → x.testBit j = c.testBit j) : x = c := by
  refine Nat.eq_of_testBit_eq (fun i => ?_)
  rcases Nat.lt_or_ge i 8 with q | q
  · exact h i q
  · rw [bit_hi (d := 8) hx q, bit_hi (d := 8) hc q]
def alb (P : PSt) (S : Nat → Bool) (b : Nat) : Bool := decide (cnt (fun t => hdb P t b && !(S t)) 20 = 0)
theorem alb_iff {P : PSt} {S : Nat → Bool} {b : Nat} : alb P S b = true ↔ ∀ t, t < 20 → hdb P t b = true → S t = true := by
  unfold alb
  rw [decide_eq_true_eq, cnt_zero]
  constructor
  · intro h t ht hh
    have := h t ht
    rw [hh] at this
    cases hs : S t with
    | true => rfl
    | false => rw [hs] at this; cases this
  · intro h t ht
    cases hh : hdb P t b with
    | false => rfl
    | true => rw [h t ht hh]; rfl
/-- what a set of things frees -/
def fre (P : PSt) (S : Nat → Bool) : Int64 := sumL (fun b => if alb P S b then (P 7 b).toInt64 else 0) 96
theorem fre_cong {P : PSt} {S S' : Nat → Bool} (h : ∀ t, t < 20 → S t = S' t) : fre P S = fre P S' := by
  refine sumL_cong (fun b hb => ?_)
  have : alb P S b = alb P S' b := by
    rw [Bool.eq_iff_iff, alb_iff, alb_iff]
    exact ⟨fun g t ht hh => (h t ht) ▸ g t ht hh, fun g t ht hh => (h t ht).symm ▸ g t ht hh⟩
  rw [this]
def Adm (L : Nat → Prop) (S : Nat → Bool) : Prop := ∀ t, t < 20 → S t = true → L t
def MS (P : PSt) (L : Nat → Prop) (nn : Nat) (M : Int64) : Prop := (M = 0 ∨ ∃ S, Adm L S ∧ cnt S 20 ≤ nn ∧ M = fre P S) ∧ 0 ≤ M.toInt ∧ ∀ S, Adm L S → cnt S 20 ≤ nn → (fre P S).toInt ≤ M.toInt
theorem MS_uniq {P : PSt} {L : Nat → Prop} {nn : Nat} {M N : Int64} (h1 : MS P L nn M) (h2 : MS P L nn N) : M = N := by
  have key : ∀ {M N : Int64}, MS P L nn M → MS P L nn N → M.toInt ≤ N.toInt := by
    intro M N h1 h2
    rcases h1.1 with e | ⟨S, hS, hc, e⟩
    · rw [e]
      exact h2.2.1
    · rw [e]
      exact h2.2.2 S hS hc
  exact Int64.toInt_inj.mp (Int.le_antisymm (key h1 h2) (key h2 h1))
def FS (P : PSt) (L : Nat → Prop) (x : Int64) (r : Int32) : Prop := (r = m1 ∧ ∀ S, Adm L S → (fre P S).toInt < x.toInt) ∨ ∃ k S, k ≤ 20 ∧ r = nI k ∧ Adm L S ∧ cnt S 20 = k ∧ x.toInt ≤ (fre P S).toInt ∧ ∀ S', Adm L S' → x.toInt ≤ (fre P S').toInt → k ≤ cnt S' 20
theorem FS_uniq {P : PSt} {L : Nat → Prop} {x : Int64} {r r' : Int32} (h1 : FS P L x r) (h2 : FS P L x r') : r = r' := by
  rcases h1 with ⟨e1, a1⟩ | ⟨k1, S1, -, e1, b1, c1, d1, f1⟩
  · rcases h2 with ⟨e2, a2⟩ | ⟨k2, S2, -, e2, b2, c2, d2, f2⟩
    · rw [e1, e2]
    · have := a1 S2 b2
      omega
  · rcases h2 with ⟨e2, a2⟩ | ⟨k2, S2, -, e2, b2, c2, d2, f2⟩
    · have := a2 S1 b1
      omega
    · have g1 := f1 S2 b2 d2
      have g2 := f2 S1 b1 d1
      rw [e1, e2, show k1 = k2 by omega]
/-- over numbered sets: the greatest so far -/
def MxI (ok : Nat → Prop) (G : Nat → Int64) (i : Nat) (best : Int64) : Prop := (best = 0 ∨ ∃ c, c < i ∧ ok c ∧ best = G c) ∧ 0 ≤ best.toInt ∧ ∀ c, c < i → ok c → (G c).toInt ≤ best.toInt
theorem MxI_0 {ok : Nat → Prop} {G : Nat → Int64} : MxI ok G 0 0 := ⟨Or.inl rfl, by decide, fun c hc => absurd hc (Nat.not_lt_zero c)⟩
theorem MxI_no {ok : Nat → Prop} {G : Nat → Int64} {i : Nat} {best : Int64} (h : MxI ok G i best) (hn : ¬ ok i ∨ (G i).toInt ≤ best.toInt) : MxI ok G (i + 1) best := by
  refine ⟨h.1.imp id (fun ⟨c, hc, e⟩ => ⟨c, by omega, e⟩), h.2.1, fun c hc ho => ?_⟩
  rcases Nat.lt_succ_iff_lt_or_eq.mp hc with q | q
  · exact h.2.2 c q ho
  · subst q
    rcases hn with z | z
    · exact absurd ho z
    · exact z
theorem MxI_yes {ok : Nat → Prop} {G : Nat → Int64} {i : Nat} {best : Int64} (h : MxI ok G i best) (ho : ok i) (hn : best.toInt ≤ (G i).toInt) : MxI ok G (i + 1) (G i) := by
  refine ⟨Or.inr ⟨i, by omega, ho, rfl⟩, by have := h.2.1; omega, fun c hc ho' => ?_⟩
  rcases Nat.lt_succ_iff_lt_or_eq.mp hc with q | q
  · have := h.2.2 c q ho'
    omega
  · subst q
    exact Int.le_refl _
/-- over numbered sets: the fewest so far -/
def FwI (ok : Nat → Prop) (G : Nat → Int64) (x : Int64) (i : Nat) (r : Int32) : Prop := (r = m1 ∧ ∀ c, c < i → ok c → (G c).toInt < x.toInt) ∨ ∃ k, k ≤ 8 ∧ r = nI k ∧ (∃ c, c < i ∧ ok c ∧ x.toInt ≤ (G c).toInt ∧ cnt (fun j => c.testBit j) 8 = k) ∧ ∀ c, c < i → ok c → x.toInt ≤ (G c).toInt → k ≤ cnt (fun j => c.testBit j) 8
theorem FwI_0 {ok : Nat → Prop} {G : Nat → Int64} {x : Int64} : FwI ok G x 0 m1 := Or.inl ⟨rfl, fun c hc => absurd hc (Nat.not_lt_zero c)⟩
theorem FwI_no {ok : Nat → Prop} {G : Nat → Int64} {x : Int64} {i : Nat} {r : Int32} (h : FwI ok G x i r) (hn : ok i → x.toInt ≤ (G i).toInt → ∃ k, k ≤ 8 ∧ r = nI k ∧ k ≤ cnt (fun j => i.testBit j) 8) : FwI ok G x (i + 1) r := by
  rcases h with ⟨e, h⟩ | ⟨k, hk, e, ⟨c, hc, z⟩, h⟩
  · refine Or.inl ⟨e, fun c hc ho => ?_⟩
    rcases Nat.lt_succ_iff_lt_or_eq.mp hc with q | q
    · exact h c q ho
    · subst q
      rcases Int.lt_or_le (G c).toInt x.toInt with w | w
      · exact w
      · obtain ⟨k, hk, e2, -⟩ := hn ho w
        rw [e] at e2
        exact absurd e2.symm (nI_ne_m1 (by omega))
  · refine Or.inr ⟨k, hk, e, ⟨c, by omega, z⟩, fun c hc ho hx => ?_⟩
    rcases Nat.lt_succ_iff_lt_or_eq.mp hc with q | q
    · exact h c q ho hx
    · subst q
      obtain ⟨k2, hk2, e2, h2⟩ := hn ho hx
      have := nI_lt_inj (by omega) (by omega) (e.symm.trans e2)
      omega
theorem FwI_yes {ok : Nat → Prop} {G : Nat → Int64} {x : Int64} {i : Nat} {r : Int32} (h : FwI ok G x i r) (ho : ok i) (hx : x.toInt ≤ (G i).toInt) (hn : r = m1 ∨ ∃ k, k ≤ 8 ∧ r = nI k ∧ cnt (fun j => i.testBit j) 8 ≤ k) : FwI ok G x (i + 1) (nI (cnt (fun j => i.testBit j) 8)) := by
  refine Or.inr ⟨cnt (fun j => i.testBit j) 8, cnt_le _ 8, rfl, ⟨i, by omega, ho, hx, rfl⟩, fun c hc ho' hx' => ?_⟩
  rcases Nat.lt_succ_iff_lt_or_eq.mp hc with q | q
  · rcases h with ⟨e, h⟩ | ⟨k, hk, e, -, h⟩
    · have := h c q ho'
      omega
    · rcases hn with w | ⟨k2, hk2, e2, h2⟩
      · rw [e] at w
        exact absurd w (nI_ne_m1 (by omega))
      · have h3 := h c q ho' hx'
        have := nI_lt_inj (by omega) (by omega) (e.symm.trans e2)
        omega
  · subst q
    exact Nat.le_refl _
/-- from numbered sets to sets -/
theorem MS_of {P : PSt} {L : Nat → Prop} {nn : Nat} {M : Int64} {ok : Nat → Prop} {G : Nat → Int64} (h : MxI ok G 256 M) (h1 : ∀ c, c < 256 → ok c → G c = 0 ∨ ∃ S, Adm L S ∧ cnt S 20 ≤ nn ∧ G c = fre P S) (h2 : ∀ S, Adm L S → cnt S 20 ≤ nn → ∃ c, c < 256 ∧ ok c ∧ G c = fre P S) : MS P L nn M := by
  refine ⟨?_, h.2.1, fun S hS hc => ?_⟩
  · rcases h.1 with e | ⟨c, hc, ho, e⟩
    · exact Or.inl e
    · rcases h1 c hc ho with z | ⟨S, a, b, z⟩
      · exact Or.inl (e.trans z)
      · exact Or.inr ⟨S, a, b, e.trans z⟩
  · obtain ⟨c, hc2, ho, e⟩ := h2 S hS hc
    rw [← e]
    exact h.2.2 c hc2 ho
theorem FS_of {P : PSt} {L : Nat → Prop} {x : Int64} {r : Int32} {ok : Nat → Prop} {G : Nat → Int64} (hx : 0 < x.toInt) (h : FwI ok G x 256 r) (h1 : ∀ c, c < 256 → ok c → G c = 0 ∨ ∃ S, Adm L S ∧ cnt S 20 = cnt (fun j => c.testBit j) 8 ∧ G c = fre P S) (h2 : ∀ S, Adm L S → ∃ c, c < 256 ∧ ok c ∧ G c = fre P S ∧ cnt S 20 = cnt (fun j => c.testBit j) 8) : FS P L x r := by
  rcases h with ⟨e, h⟩ | ⟨k, hk, e, ⟨c, hc, ho, hg, hk2⟩, h⟩
  · refine Or.inl ⟨e, fun S hS => ?_⟩
    obtain ⟨c, hc, ho, e2, -⟩ := h2 S hS
    rw [← e2]
    exact h c hc ho
  · rcases h1 c hc ho with z | ⟨S, a, b, z⟩
    · rw [z] at hg
      have : (0 : Int64).toInt = 0 := by decide
      omega
    · refine Or.inr ⟨k, S, by omega, e, a, b.trans hk2, by rw [← z]; exact hg, fun S' hS' hx' => ?_⟩
      obtain ⟨c', hc', ho', e2, e3⟩ := h2 S' hS'
      rw [e3]
      rw [← e2] at hx'
      exact h c' hc' ho' hx'
