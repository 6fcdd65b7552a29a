/-! ===== alone, range ===== -/
theorem cnt_subset {p q : Nat → Bool} : ∀ {n : Nat}, (∀ k, k < n → p k = true → q k = true) → cnt p n ≤ cnt q n ∧ (cnt p n = cnt q n ↔ ∀ k, k < n → q k = true → p k = true)
  | 0, _ => ⟨Nat.le_refl _, fun _ k hk => by omega, fun _ => rfl⟩
  | n + 1, h => by
    obtain ⟨h1, h2⟩ := cnt_subset (p := p) (q := q) (n := n) (fun k hk => h k (by omega))
    rw [cnt_s, cnt_s]
    have hn := h n (by omega)
    cases hp : p n with
    | true =>
      rw [hn hp]
      refine ⟨by omega, fun e k hk y => ?_, fun g => ?_⟩
      · rcases Nat.lt_or_ge k n with w | w
        · exact h2.mp (by omega) k w y
        · have : k = n := by omega
          subst this; exact hp
      · have := h2.mpr (fun k hk => g k (by omega))
        omega
    | false =>
      cases hq : q n with
      | true =>
        simp only [Bool.false_eq_true, if_false, if_true]
        refine ⟨by omega, fun e => by omega, fun g => ?_⟩
        have := g n (by omega) hq
        rw [hp] at this
        exact absurd this (by decide)
      | false =>
        simp only [Bool.false_eq_true, if_false, Nat.add_zero]
        refine ⟨h1, fun e k hk y => ?_, fun g => h2.mpr (fun k hk => g k (by omega))⟩
        rcases Nat.lt_or_ge k n with w | w
        · exact h2.mp e k w y
        · have : k = n := by omega
          subst this
          rw [hq] at y
          exact absurd y (by decide)
theorem sh_amt : ∀ t, t < 20 → ((nI t &&& 31).toBitVec.smod 32).toNat = t := by decide +kernel
theorem qb_shr {x : Int32} {t : Nat} (ht : t < 20) : qb (x >>> (nI t &&& 31)) 0 = qb x t := by
  unfold qb
  rw [Int32.toBitVec_shiftRight]
  show (x.toBitVec.sshiftRight ((nI t &&& 31).toBitVec.smod 32).toNat).getLsbD 0 = _
  rw [sh_amt t ht, BitVec.getLsbD_sshiftRight]
  simp [show t < 32 by omega]
theorem qb_lit1 : ∀ i, i < 32 → qb 1 i = decide (i = 0) := by decide +kernel
theorem bit_test {x : Int32} {t : Nat} (ht : t < 20) : (((x >>> (nI t &&& 31)) &&& 1) = 1) ↔ qb x t = true := by
  rw [← qb_shr ht]
  generalize x >>> (nI t &&& 31) = y
  constructor
  · intro h
    have h1 : qb (y &&& 1) 0 = qb 1 0 := by rw [h]
    rw [qb_and, qb_lit1 0 (by omega)] at h1
    simpa using h1
  · intro h
    refine Int32.toBitVec_inj.mp (BitVec.eq_of_getLsbD_eq (fun i hi => ?_))
    show qb (y &&& 1) i = qb 1 i
    rw [qb_and, qb_lit1 i hi]
    by_cases e : i = 0
    · subst e; rw [h]; rfl
    · rw [decide_eq_false e, Bool.and_false]
section
variable {P : PSt} {s : RSt} {n : Nat}
/-- all holders of a block are in the set -/
def aln (P : PSt) (M : Int32) (b : Nat) : Prop := ∀ t, t < 20 → hdb P t b = true → qb M t = true
theorem c_sub (M V : Int32) {b : Nat} (hV : ∀ i, i < 32 → qb V i = (decide (i < 20) && hdb P i b)) : ((V &&& (M ^^^ (-1))) = 0) ↔ aln P M b := by
  rw [qb_zero]
  constructor
  · intro h t ht y
    have := h t (by omega)
    rw [qb_and, qb_xor, qb_m1 t (by omega), hV t (by omega), y, decide_eq_true ht] at this
    simpa using this
  · intro h i hi
    rw [qb_and, qb_xor, qb_m1 i hi, hV i hi]
    by_cases z : i < 20
    · cases y : hdb P i b with
      | false => simp
      | true => rw [h i z y]; simp
    · rw [decide_eq_false z]; simp
theorem q_aloneIn (h : Good P s n) (X hd : RSt) (M : Int32) : ∃ r X' hd', xX6_sizeHeldOnlyBy P X M = some (r, X') ∧ xX8_aloneIn s hd M = some (r, hd') := by
  obtain ⟨hI, hS, -⟩ := h
  have hW := hI.w
  obtain ⟨X', e1, h1⟩ := c_look hW X
  obtain ⟨hd', e2, h2⟩ := m_counts hS hW hd
  haveI : ∀ b, Decidable (aln P M b) := fun b => Classical.propDecidable _
  unfold xX6_sizeHeldOnlyBy xX8_aloneIn
  rw [e1, e2, bn1_s, bn1_s]
  refine ⟨sumL (fun b => if aln P M b then (P 7 b).toInt64 else 0) 96, X', hd', ?_, ?_⟩
  · refine loop0 (fun m i r => xX6_sizeHeldOnlyBy_12 P m M r (nI i) X') (fun i => sumL (fun b => if aln P M b then (P 7 b).toInt64 else 0) i) _ 96 600 (by decide) ?_ ?_
    · intro m b hb
      have e : nI b + 1 = nI (b + 1) := nI_succE b
      have hi := c_sub M (X' b) (h1 b hb)
      show xX6_sizeHeldOnlyBy_12 P (m + 1) M _ (nI b) X' = xX6_sizeHeldOnlyBy_12 P m M _ (nI (b + 1)) X'
      rw [xX6_sizeHeldOnlyBy_12, if_neg (by rw [L96, nI_leE (by omega) (by omega)]; omega), c_setOf hb, bn1_s, c_sizeOf, bn1_s, rd_nI (by decide) hb, sumL_s, e]
      by_cases z : aln P M b
      · rw [if_pos (hi.mpr z), if_pos z]
      · rw [if_neg (fun y => z (hi.mp y)), if_neg z, L64_0]
    · intro m
      show xX6_sizeHeldOnlyBy_12 P (m + 1) M _ (nI 96) X' = _
      rw [xX6_sizeHeldOnlyBy_12, if_pos (by rw [L96, nI_leE (by omega) (by omega)]; omega)]
  · refine loop0 (fun m i r => xX8_aloneIn_9 s m M r (nI i) hd') (fun i => sumL (fun b => if aln P M b then (P 7 b).toInt64 else 0) i) _ 96 600 (by decide) ?_ ?_
    · intro m b hb
      have e : nI b + 1 = nI (b + 1) := nI_succE b
      show xX8_aloneIn_9 s (m + 1) M _ (nI b) hd' = xX8_aloneIn_9 s m M _ (nI (b + 1)) hd'
      rw [xX8_aloneIn_9, if_neg (by rw [L96, nI_leE (by omega) (by omega)]; omega), sumL_s]
      generalize sumL (fun b => if aln P M b then (P 7 b).toInt64 else 0) b = acc
      generalize xX8_aloneIn_9 s m = kf
      have e7 := hS.2.2.2.2.1 b hb
      have a362 : (362 : Int32) + nI b = nI (362 + b) := nI_addE 362 b
      have hle := cnt_le (fun t => qb M t && hdb P t b) 20
      have hle2 := cnt_le (fun t => hdb P t b) 20
      refine loop0 (fun m i r => xX8_aloneIn_22 s kf m M acc (nI b) r (nI i) hd') (fun i => nI (cnt (fun t => qb M t && hdb P t b) i)) _ 20 600 (by decide) ?_ ?_
      · intro m t ht
        have e : nI t + 1 = nI (t + 1) := nI_succE t
        have cs := cnt_s (fun t => qb M t && hdb P t b) t
        show xX8_aloneIn_22 s kf (m + 1) M acc (nI b) _ (nI t) hd' = xX8_aloneIn_22 s kf m M acc (nI b) _ (nI (t + 1)) hd'
        rw [xX8_aloneIn_22, if_neg (by rw [L20, nI_leE (by omega) (by omega)]; omega), cs, m_isHeld hS hW ht hb, bn1_s, ite10, e]
        generalize cnt (fun t => qb M t && hdb P t b) t = c
        have ad0 : nI c + 0 = nI (c + 0) := nI_add0 (nI c)
        have ad1 : nI c + 1 = nI (c + 1) := nI_succE c
        by_cases z : qb M t = true
        · rw [if_pos ((bit_test ht).mpr z), z, Bool.true_and]
          by_cases y : hdb P t b = true
          · rw [if_pos y, if_pos y, ad1]
          · rw [if_neg y, if_neg y, ad0]
        · rw [if_neg (fun y => z ((bit_test ht).mp y)), (Bool.not_eq_true _).mp z, Bool.false_and, if_neg Bool.false_ne_true, ad0]
      · intro m
        show xX8_aloneIn_22 s kf (m + 1) M acc (nI b) _ (nI 20) hd' = _
        rw [xX8_aloneIn_22, if_pos (by rw [L20, nI_leE (by omega) (by omega)]; omega), ix_nI (by omega) (by omega), grd_t, a362, ix_nI (by omega) (by omega), grd_t, nI_clE (by omega), nI_clE (by omega), e7, h2 b hb, hc_things hW hb, e]
        obtain ⟨g1, g2⟩ := cnt_subset (p := fun t => qb M t && hdb P t b) (q := fun t => hdb P t b) (n := 20) (fun k _ y => by
          rw [Bool.and_eq_true] at y
          exact y.2)
        have g3 : (∀ k, k < 20 → hdb P k b = true → (qb M k && hdb P k b) = true) ↔ aln P M b := by
          constructor
          · intro w t ht y
            have := w t ht y
            rw [Bool.and_eq_true] at this
            exact this.1
          · intro w t ht y
            rw [Bool.and_eq_true]
            exact ⟨w t ht y, y⟩
        have g4 := g2.trans g3
        have g5 : P 7 b ≠ 0 → 0 < cnt (fun t => hdb P t b) 20 := by
          intro w
          obtain ⟨t, k, ht, hk, y⟩ := ((hI.2.2.2.2.2.2.2.2.1 b hb).2.2 (sz_ne.mp w)).2.2
          exact cnt_pos.mpr ⟨t, ht, hdb_iff.mpr ⟨k, hk, y⟩⟩
        generalize cnt (fun t => qb M t && hdb P t b) 20 = c at *
        generalize cnt (fun t => hdb P t b) 20 = d at *
        have i1 : (nI c ≤ 0) ↔ c = 0 := nI_le0 hle
        have i2 : (nI c = nI d) ↔ c = d := by
          rw [nI_inj (by omega) (by omega)]
        by_cases z : c = 0
        · rw [if_pos (i1.mpr z), L64_0]
          have : (if aln P M b then (P 7 b).toInt64 else 0) = 0 := by
            by_cases y : aln P M b
            · rw [if_pos y]
              have : d = 0 := by have := g4.mpr y; omega
              by_cases w : P 7 b = 0
              · rw [w]; rfl
              · have := g5 w; omega
            · rw [if_neg y]
          rw [this, L64_0]
        · rw [if_neg (fun y => z (i1.mp y))]
          by_cases y : c = d
          · rw [if_pos (i2.mpr y), if_pos (g4.mp y)]
          · rw [if_neg (fun w => y (i2.mp w)), if_neg (fun w => y (g4.mpr w))]
    · intro m
      show xX8_aloneIn_9 s (m + 1) M _ (nI 96) hd' = _
      rw [xX8_aloneIn_9, if_pos (by rw [L96, nI_leE (by omega) (by omega)]; omega)]
theorem bn2_id {α β : Type} (q : Option (α × β)) : bn2 q (fun v1 X2 => some (v1, X2)) = q := by
  cases q with
  | none => rfl
  | some w => rfl
theorem q_alone (h : Good P s n) (X hd : RSt) (x : Int32) : ∃ r X' hd', xX7_alone P X x = some (r, X') ∧ xX8_alone s hd x = some (r, hd') := by
  have h0 := h
  obtain ⟨hI, hS, -⟩ := h
  unfold xX7_alone xX8_alone
  rw [c_holder hI.1, m_hasSlots hS, bn1_s, bn1_s, ite10, ite10]
  by_cases hk : hsk (rd 20 (P 0) m1 x) = true
  · rw [if_pos hk, if_pos hk, bn2_id, bn2_id]
    exact q_aloneIn h0 X hd _
  · rw [if_neg hk, if_neg hk]
    exact ⟨_, _, _, rfl, rfl⟩
theorem q_range (h : Good P s n) (X hd : RSt) (x y : Int32) : ∃ r X' hd', xX7_range P X x y = some (r, X') ∧ xX8_range s hd x y = some (r, hd') := by
  have h0 := h
  obtain ⟨hI, hS, -⟩ := h
  have hW := hI.w
  unfold xX7_range xX6_sizeOfRange xX8_range
  rw [bn2_id, c_isSnapshot, m_isSnapshot hS, bn1_s, bn1_s, ite10, ite10]
  by_cases hx : rd 20 (P 0) m1 x = 2 ∨ rd 20 (P 0) m1 x = 3
  · rw [if_pos hx, if_pos hx, c_isSnapshot, m_isSnapshot hS, bn1_s, bn1_s, ite10, ite10]
    by_cases hy : rd 20 (P 0) m1 y = 2 ∨ rd 20 (P 0) m1 y = 3
    · rw [if_pos hy, if_pos hy]
      obtain ⟨u, hu, rfl, su⟩ : ∃ u, u < 20 ∧ y = nI u ∧ isS P u := by
        rcases arg_ix y (n := 20) (by decide) with z | ⟨u, hu, rfl⟩
        · rw [rd_o z] at hy; exact absurd hy (by decide)
        · rw [rd_nI (by decide) hu] at hy; exact ⟨u, hu, rfl, hy⟩
      have hsh := ch_short hW.2.2.2.2.2.1 hu (Or.inr su)
      have go : ∀ d i m m' (w : Int32), i + d = 20 → d < m → d < m' → ∃ r X' hd', xX6_sizeOfRange_34 P m x w (itr P (nI u) i) (nI i) X = some (r, X') ∧ xX8_range_25 s m' x w (itr P (nI u) i) hd = some (r, hd') := by
        intro d
        induction d with
        | zero =>
          intro i m m' w hi hm hm'
          obtain ⟨m, rfl⟩ : ∃ m2, m = m2 + 1 := ⟨m - 1, by omega⟩
          obtain ⟨m', rfl⟩ : ∃ m2, m' = m2 + 1 := ⟨m' - 1, by omega⟩
          have : i = 20 := by omega
          subst this
          rw [xX6_sizeOfRange_34, if_pos (by rw [L20, nI_leE (by omega) (by omega)]; omega), xX8_range_25, if_pos hsh]
          unfold xX8_range_59
          rw [if_pos hsh]
          exact ⟨_, _, _, rfl, rfl⟩
        | succ d ih =>
          intro i m m' w hi hm hm'
          obtain ⟨m, rfl⟩ : ∃ m2, m = m2 + 1 := ⟨m - 1, by omega⟩
          obtain ⟨m', rfl⟩ : ∃ m2, m' = m2 + 1 := ⟨m' - 1, by omega⟩
          have hsn : itr P (nI u) i = m1 ∨ ∃ a, a < 20 ∧ itr P (nI u) i = nI a ∧ isS P a := by
            cases i with
            | zero => exact Or.inr ⟨u, hu, rfl, su⟩
            | succ i => exact ch_snap hW.2.2.2.2.2.1 hu i
          rw [xX6_sizeOfRange_34, if_neg (by rw [L20, nI_leE (by omega) (by omega)]; omega), xX8_range_25]
          unfold xX8_range_59
          rcases hsn with z | ⟨a, ha, z, sa⟩
          · rw [if_pos z, if_pos z, if_pos z]
            exact ⟨_, _, _, rfl, rfl⟩
          · have zn : ¬ itr P (nI u) i = -1 := by rw [z]; exact nI_ne_m1 (by omega)
            rw [if_neg zn, if_neg zn, if_neg zn]
            by_cases q : itr P (nI u) i = x
            · rw [if_pos q, if_pos q, bn2_id, bn2_id, q]
              exact q_aloneIn h0 X hd _
            · rw [if_neg q, if_neg q, c_prevOf, bn1_s]
              have e42 := (hS.2.2.1 a ha (sN (Or.inr sa))).2.1
              have a42 : (42 : Int32) + nI a = nI (42 + a) := nI_addE 42 a
              have nx : itr P (nI u) (i + 1) = P 2 a := ch_next ha z
              have := ih (i + 1) m m' (w ||| ((1 : Int32) <<< (itr P (nI u) i &&& 31))) (by omega) (by omega) (by omega)
              rw [nx, z] at this
              rw [z, rd_nI (by decide) ha, a42, ix_nI (by omega) (by omega), grd_t, nI_clE (by omega), e42, show nI i + 1 = nI (i + 1) from nI_succE i]
              exact this
      exact go 20 0 600 600 0 (by omega) (by omega) (by omega)
    · rw [if_neg hy, if_neg hy]
      exact ⟨_, _, _, rfl, rfl⟩
  · rw [if_neg hx, if_neg hx]
    exact ⟨_, _, _, rfl, rfl⟩
end
