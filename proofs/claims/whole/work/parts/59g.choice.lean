/-! ===== the class's choice: candidates, what each set of them frees ===== -/
theorem sumL_add {f g : Nat → Int64} : ∀ n, sumL (fun b => f b + g b) n = sumL f n + sumL g n
  | 0 => rfl
  | n + 1 => by
    rw [sumL_s, sumL_s, sumL_s, sumL_add n]
    ac_rfl
theorem andbit {V : Int32} {x : Nat} (hx : x < 20) : ((V &&& ((1 : Int32) <<< (nI x &&& 31))) = 0) ↔ qb V x = false := by
  rw [qb_zero]
  constructor
  · intro h
    have := h x (by omega)
    rw [qb_and, qb_one x hx x (by omega), decide_eq_true rfl, Bool.and_true] at this
    exact this
  · intro h i hi
    rw [qb_and, qb_one x hx i hi]
    by_cases e : i = x
    · subst e; rw [h]; rfl
    · rw [decide_eq_false e, Bool.and_false]
section
variable {P : PSt} {s : RSt} {n : Nat}
/-- a candidate: one of the first eight own snapshots, loose -/
def Lo (P : PSt) (f x : Nat) : Prop := ∃ k, k < 8 ∧ k < owc P (nI f) ∧ itr P (nI f) (k + 1) = nI x ∧ P 4 x = 0 ∧ nxc P (nI x) = 1
def CdI (P : PSt) (f k : Nat) (q : Int32 × RSt) : Prop := ∃ d, d ≤ k ∧ q.1 = nI d ∧ (∀ i, i < d → ∃ k' x, k' < k ∧ x < 20 ∧ itr P (nI f) (k' + 1) = nI x ∧ (P 4 x = 0 ∧ nxc P (nI x) = 1) ∧ q.2 i = nI x) ∧ (∀ k' x, k' < k → x < 20 → itr P (nI f) (k' + 1) = nI x → (P 4 x = 0 ∧ nxc P (nI x) = 1) → ∃ i, i < d ∧ q.2 i = nI x) ∧ ∀ i j, i < j → j < d → q.2 i ≠ q.2 j
theorem c_find (hW : WInv P) {f : Nat} (hf : f < 20) (hF : isF P f) (C : RSt) : ∃ d C', xX1_findCandidates P C (nI f) = some (nI d, C') ∧ d ≤ 8 ∧ Enm C' d ∧ (∀ i x, i < d → x < 20 → C' i = nI x → Lo P f x) ∧ ∀ x, x < 20 → Lo P f x → ∃ i, i < d ∧ C' i = nI x := by
  obtain ⟨p1, -, -, p4⟩ := own_pref hW hf hF
  have hp := hW.2.2.2.2.2.1
  obtain ⟨lk, hlk, elk, hlk2⟩ : ∃ lk, lk ≤ 8 ∧ (if 8 < nI (owc P (nI f)) then 8 else nI (owc P (nI f))) = nI lk ∧ ∀ k, k < lk ↔ (k < 8 ∧ k < owc P (nI f)) := by
    by_cases h : 8 < owc P (nI f)
    · refine ⟨8, by omega, if_pos (by rw [L8, nI_ltE (by omega) (by omega)]; exact h), fun k => by omega⟩
    · refine ⟨owc P (nI f), by omega, if_neg (by rw [L8, nI_ltE (by omega) (by omega)]; exact h), fun k => by omega⟩
  have h := loopI (fun m k (q : Int32 × RSt) => xX1_findCandidates_19 P m (nI f) (nI lk) q.1 (nI k) q.2) (CdI P f) lk (fun m k q hk hI => by
    obtain ⟨q1, g⟩ := q
    obtain ⟨d, hd, e1, a1, a2, a3⟩ := hI
    have e1' : q1 = nI d := e1
    subst e1'
    obtain ⟨x, hx, ex, -, hsx⟩ := p1 k ((hlk2 k).mp hk).2
    have ek : nI k + 1 = nI (k + 1) := nI_succE k
    show ∃ q', xX1_findCandidates_19 P (m + 1) (nI f) (nI lk) (nI d) (nI k) g = _ ∧ _
    rw [xX1_findCandidates_19, if_neg (by rw [nI_leE (by omega) (by omega)]; omega), c_inChain (by omega), bn1_s, itr_s, ex, c_isLoose hx hsx, bn1_s, ite10, ek]
    by_cases hl : P 4 x = 0 ∧ nxc P (nI x) = 1
    · rw [if_pos hl, if_neg (show ¬ (8 : Int32) ≤ nI d by rw [L8, nI_leE (by omega) (by omega)]; omega), ix_nI (by omega) (by omega), grd_t, lt1_s, nI_clE (by omega), show nI d + 1 = nI (d + 1) from nI_succE d]
      refine ⟨(nI (d + 1), upd g d (nI x)), rfl, d + 1, by omega, rfl, fun i hi => ?_, fun k' y hk' hy ey hly => ?_, fun i j hij hj => ?_⟩
      · show ∃ k' x, k' < k + 1 ∧ x < 20 ∧ itr P (nI f) (k' + 1) = nI x ∧ (P 4 x = 0 ∧ nxc P (nI x) = 1) ∧ upd g d _ i = nI x
        by_cases e : i = d
        · subst e
          exact ⟨k, x, by omega, hx, ex, hl, upd_eq _ _ _⟩
        · obtain ⟨k', y, hk', hy, ey, hly, eg⟩ := a1 i (by omega)
          exact ⟨k', y, by omega, hy, ey, hly, (upd_ne e).trans eg⟩
      · show ∃ i, i < d + 1 ∧ upd g d (nI x) i = nI y
        rcases Nat.lt_succ_iff_lt_or_eq.mp hk' with w | w
        · obtain ⟨i, hi, ei⟩ := a2 k' y w hy ey hly
          exact ⟨i, by omega, (upd_ne (by omega)).trans ei⟩
        · subst w
          exact ⟨d, by omega, (upd_eq _ _ _).trans (ex.symm.trans ey)⟩
      · show upd g d (nI x) i ≠ upd g d (nI x) j
        rw [upd_ne (show i ≠ d by omega)]
        by_cases e : j = d
        · subst e
          rw [upd_eq]
          intro w
          obtain ⟨k', y, hk', hy, ey, -, eg⟩ := a1 i (by omega)
          have ey2 : itr P (nI f) (k' + 1) = nI x := ey.trans (eg.symm.trans w)
          have := ch_inj hp hf hx ey2 ex
          omega
        · rw [upd_ne e]
          exact a3 i j hij (by omega)
    · rw [if_neg hl]
      refine ⟨(nI d, g), rfl, d, by omega, rfl, fun i hi => ?_, fun k' y hk' hy ey hly => ?_, a3⟩
      · obtain ⟨k', y, hk', z⟩ := a1 i hi
        exact ⟨k', y, by omega, z⟩
      · rcases Nat.lt_succ_iff_lt_or_eq.mp hk' with w | w
        · exact a2 k' y w hy ey hly
        · subst w
          have := nI_lt_inj (by omega) (by omega) (ex.symm.trans ey)
          subst this
          exact absurd hly hl) lk 600 0 (nI 0, C) (by omega) (by omega) ⟨0, by omega, rfl, fun i hi => absurd hi (Nat.not_lt_zero i), fun k' x hk' => absurd hk' (Nat.not_lt_zero k'), fun i j _ hj => absurd hj (Nat.not_lt_zero j)⟩
  obtain ⟨m, q, e, d, hd, e1, a1, a2, a3⟩ := h
  obtain ⟨q1, g⟩ := q
  have e1' : q1 = nI d := e1
  subst e1'
  refine ⟨d, g, ?_, by omega, ⟨fun i hi => ?_, a3⟩, fun i x hi hx ei => ?_, fun x hx hl => ?_⟩
  · unfold xX1_findCandidates
    rw [c_ownCount, bn1_s, elk]
    refine (show xX1_findCandidates_19 P 600 (nI f) (nI lk) (nI 0) (nI 0) C = _ from e).trans ?_
    show xX1_findCandidates_19 P (m + 1) (nI f) (nI lk) (nI d) (nI lk) g = _
    rw [xX1_findCandidates_19, if_pos (by rw [nI_leE (by omega) (by omega)]; omega)]
  · obtain ⟨k', x, -, hx, -, -, ei⟩ := a1 i hi
    exact ⟨x, hx, ei⟩
  · obtain ⟨k', y, hk', hy, ey, hly, eg⟩ := a1 i hi
    have eg' : g i = nI y := eg
    have := nI_lt_inj (by omega) (by omega) (eg'.symm.trans ei)
    subst this
    exact ⟨k', ((hlk2 k').mp hk').1, ((hlk2 k').mp hk').2, ey, hly⟩
  · obtain ⟨k, h1, h2, ex, hl⟩ := hl
    exact a2 k x ((hlk2 k).mpr ⟨h1, h2⟩) hx ex hl
theorem ful_s {C : RSt} {i t : Nat} : ful C (i + 1) t = (ful C i t || decide (C i = nI t)) := by
  rw [Bool.eq_iff_iff, Bool.or_eq_true, ful_iff, ful_iff, decide_eq_true_eq]
  constructor
  · rintro ⟨j, hj, e⟩
    rcases Nat.lt_succ_iff_lt_or_eq.mp hj with w | w
    · exact Or.inl ⟨j, w, e⟩
    · subst w; exact Or.inr e
  · rintro (⟨j, hj, e⟩ | e)
    · exact ⟨j, by omega, e⟩
    · exact ⟨i, by omega, e⟩
theorem c_alone {C : RSt} {d b : Nat} {V : Int32} (hC : Enm C d) (hd : d ≤ 8) (hV : ∀ i, i < 32 → qb V i = (decide (i < 20) && hdb P i b)) : xX1_candidatesAlone C V (nI d) = some (if alb P (ful C d) b then nI (cbn P C b d) else m1) := by
  have h := loopI (fun m i (q : Int32 × Int32) => xX1_candidatesAlone_8 C m (nI d) q.1 q.2 (nI i)) (fun i q => q.2 = nI (cbn P C b i) ∧ ∀ t, t < 32 → qb q.1 t = ((decide (t < 20) && hdb P t b) && !(ful C i t))) d (fun m i q hi hI => by
    obtain ⟨V1, y⟩ := q
    obtain ⟨e1, h1⟩ := hI
    have e1' : y = nI (cbn P C b i) := e1
    have h1' : ∀ t, t < 32 → qb V1 t = ((decide (t < 20) && hdb P t b) && !(ful C i t)) := h1
    subst e1'
    obtain ⟨x, hx, ex⟩ := hC.1 i hi
    have hcl : (C i).toNatClampNeg = x := by rw [ex, nI_clE (by omega)]
    have hfx : ful C i x = false := by
      cases hq : ful C i x with
      | false => rfl
      | true =>
        obtain ⟨j, hj, ej⟩ := ful_iff.mp hq
        exact absurd (ej.trans ex.symm) (hC.2 j i hj hi)
    have hqx : qb V1 x = hdb P x b := by
      rw [h1' x (by omega), hfx, decide_eq_true hx, Bool.true_and]
      exact Bool.and_true _
    have hy := cbn_lt (P := P) (C := C) (b := b) i
    have hy2 : cbn P C b i < 256 := Nat.lt_of_lt_of_le hy (pow8 (by omega))
    show ∃ q', xX1_candidatesAlone_8 C (m + 1) (nI d) V1 (nI (cbn P C b i)) (nI i) = _ ∧ _
    rw [xX1_candidatesAlone_8, if_neg (by rw [nI_leE (by omega) (by omega)]; omega), if_neg (show ¬ (8 : Int32) ≤ nI i by rw [L8, nI_leE (by omega) (by omega)]; omega), ix_nI (by omega) (by omega), grd_t, nI_clE (by omega), ex, show nI i + 1 = nI (i + 1) from nI_succE i]
    cases hh : hdb P x b with
    | false =>
      rw [hh] at hqx
      rw [if_pos ((andbit hx).mpr hqx)]
      refine ⟨(V1, nI (cbn P C b i)), rfl, ?_, fun t ht => ?_⟩
      · show nI (cbn P C b i) = nI (cbn P C b (i + 1))
        rw [cbn_s, hcl, hh, if_neg (by decide), Nat.or_zero]
      · show qb V1 t = _
        rw [h1' t ht, ful_s, ex]
        by_cases e : t = x
        · subst e
          rw [hh, Bool.and_false, Bool.false_and, Bool.false_and]
        · rw [decide_eq_false (fun w => e (nI_lt_inj (by omega) (by omega) w).symm), Bool.or_false]
    | true =>
      rw [hh] at hqx
      rw [if_neg (fun w => by rw [(andbit hx).mp w] at hqx; cases hqx), bC _ hy2 i (by omega)]
      refine ⟨(V1 &&& (((1 : Int32) <<< (nI x &&& 31)) ^^^ (-1)), nI (cbn P C b i ||| 2 ^ i)), rfl, ?_, fun t ht => ?_⟩
      · show nI (cbn P C b i ||| 2 ^ i) = nI (cbn P C b (i + 1))
        rw [cbn_s, hcl, hh, if_pos rfl]
      · show qb (V1 &&& (((1 : Int32) <<< (nI x &&& 31)) ^^^ (-1))) t = _
        rw [qb_and, qb_xor, qb_one x hx t ht, qb_m1 t ht, h1' t ht, ful_s, ex]
        by_cases e : t = x
        · subst e
          rw [decide_eq_true rfl, decide_eq_true rfl, Bool.or_true]
          simp
        · rw [decide_eq_false e, decide_eq_false (fun w => e (nI_lt_inj (by omega) (by omega) w).symm), Bool.or_false]
          simp) d 600 0 (V, nI 0) (by omega) (by omega) ⟨rfl, fun t ht => by
      show qb V t = _
      rw [hV t ht, show ful C 0 t = false from rfl]
      exact (Bool.and_true _).symm⟩
  obtain ⟨m, q, e, e1, h1⟩ := h
  obtain ⟨V1, y⟩ := q
  have e1' : y = nI (cbn P C b d) := e1
  have h1' : ∀ t, t < 32 → qb V1 t = ((decide (t < 20) && hdb P t b) && !(ful C d t)) := h1
  subst e1'
  unfold xX1_candidatesAlone
  refine (show xX1_candidatesAlone_8 C 600 (nI d) V (nI 0) (nI 0) = _ from e).trans ?_
  show xX1_candidatesAlone_8 C (m + 1) (nI d) V1 (nI (cbn P C b d)) (nI d) = _
  rw [xX1_candidatesAlone_8, if_pos (by rw [nI_leE (by omega) (by omega)]; omega)]
  unfold xX1_candidatesAlone_61
  have hz : (V1 = 0) ↔ alb P (ful C d) b = true := by
    rw [qb_zero, alb_iff]
    constructor
    · intro g t ht hh
      have := g t (by omega)
      rw [h1' t (by omega), decide_eq_true ht, hh] at this
      cases hq : ful C d t with
      | true => rfl
      | false => rw [hq] at this; cases this
    · intro g t ht
      rw [h1' t ht]
      by_cases h20 : t < 20
      · cases hh : hdb P t b with
        | false => rw [Bool.and_false, Bool.false_and]
        | true => rw [g t h20 hh]; exact Bool.and_false _
      · rw [decide_eq_false h20]; rfl
  by_cases z : V1 = 0
  · rw [if_pos z, if_pos (hz.mp z)]
  · rw [if_neg z, if_neg (fun w => z (hz.mpr w))]
end
