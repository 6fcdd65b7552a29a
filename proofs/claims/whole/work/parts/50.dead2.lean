/-! ===== dead: how many, the youngest, the oldest ===== -/
/-- one block is later than another: born later, or with it and of a smaller number -/
def ltr (P : PSt) (a b : Nat) : Bool := decide (bt1 P b < bt1 P a ∨ (bt1 P a = bt1 P b ∧ a < b))
theorem ltr_iff {P : PSt} {a b : Nat} : ltr P a b = true ↔ (bt1 P b < bt1 P a ∨ (bt1 P a = bt1 P b ∧ a < b)) := decide_eq_true_iff
def ExD (P : PSt) (D : Nat → Prop) (x5 x6 : Int32) : Prop := (x5 = m1 ∧ x6 = m1 ∧ ∀ b, b < 96 → ¬ D b) ∨ ∃ a c, a < 96 ∧ c < 96 ∧ x5 = nI a ∧ x6 = nI c ∧ D a ∧ D c ∧ ∀ b, b < 96 → D b → ¬ ltr P b a = true ∧ ¬ ltr P c b = true
def n5 (P : PSt) (x : Int32) (b : Nat) : Int32 := if x = m1 then nI b else if ltr P b x.toNatClampNeg then nI b else x
def n6 (P : PSt) (x : Int32) (b : Nat) : Int32 := if x = m1 then nI b else if ltr P x.toNatClampNeg b then nI b else x
theorem ex_cong {P : PSt} {D E : Nat → Prop} {x5 x6 : Int32} (h : ∀ b, b < 96 → (D b ↔ E b)) (hx : ExD P D x5 x6) : ExD P E x5 x6 := by
  rcases hx with ⟨a, b, c⟩ | ⟨a, c, ha, hc, e1, e2, d1, d2, hm⟩
  · exact Or.inl ⟨a, b, fun j hj y => c j hj ((h j hj).mpr y)⟩
  · exact Or.inr ⟨a, c, ha, hc, e1, e2, (h a ha).mp d1, (h c hc).mp d2, fun b hb y => hm b hb ((h b hb).mpr y)⟩
theorem ex_uniq {P : PSt} {D : Nat → Prop} {x5 x6 y5 y6 : Int32} (h1 : ExD P D x5 x6) (h2 : ExD P D y5 y6) : x5 = y5 ∧ x6 = y6 := by
  rcases h1 with ⟨a, b, c⟩ | ⟨a, c, ha, hc, e1, e2, d1, d2, hm⟩
  · rcases h2 with ⟨a', b', c'⟩ | ⟨a', c', ha', hc', e1', e2', d1', d2', hm'⟩
    · exact ⟨a.trans a'.symm, b.trans b'.symm⟩
    · exact absurd d1' (c a' ha')
  · rcases h2 with ⟨a', b', c'⟩ | ⟨a', c', ha', hc', e1', e2', d1', d2', hm'⟩
    · exact absurd d1 (c' a ha)
    · have q1 := (hm a' ha' d1').1
      have q2 := (hm' a ha d1).1
      have q3 := (hm c' hc' d2').2
      have q4 := (hm' c hc d2).2
      rw [ltr_iff] at q1 q2 q3 q4
      have z1 : a = a' := by omega
      have z2 : c = c' := by omega
      rw [e1, e2, e1', e2', z1, z2]
      exact ⟨rfl, rfl⟩
theorem ex_step {P : PSt} {D : Nat → Prop} {x5 x6 : Int32} {b : Nat} (hb : b < 96) (h : ExD P D x5 x6) : ExD P (fun j => D j ∨ j = b) (n5 P x5 b) (n6 P x6 b) := by
  refine Or.inr ?_
  have irr : ¬ ltr P b b = true := by rw [ltr_iff]; omega
  rcases h with ⟨e1, e2, hn⟩ | ⟨a, c, ha, hc, e1, e2, d1, d2, hm⟩
  · refine ⟨b, b, hb, hb, if_pos e1, if_pos e2, Or.inr rfl, Or.inr rfl, ?_⟩
    rintro j hj (y | y)
    · exact absurd y (hn j hj)
    · subst y; exact ⟨irr, irr⟩
  · have f5 : ∃ a', a' < 96 ∧ n5 P x5 b = nI a' ∧ (D a' ∨ a' = b) ∧ ∀ j, j < 96 → (D j ∨ j = b) → ¬ ltr P j a' = true := by
      unfold n5
      rw [e1, if_neg (nI_ne_m1 (by omega)), nI_clE (by omega)]
      by_cases z : ltr P b a = true
      · rw [if_pos z]
        refine ⟨b, hb, rfl, Or.inr rfl, ?_⟩
        rintro j hj (y | y)
        · have q := (hm j hj y).1
          rw [ltr_iff] at q z ⊢
          omega
        · subst y; exact irr
      · rw [if_neg z]
        refine ⟨a, ha, rfl, Or.inl d1, ?_⟩
        rintro j hj (y | y)
        · exact (hm j hj y).1
        · subst y; exact z
    have f6 : ∃ c', c' < 96 ∧ n6 P x6 b = nI c' ∧ (D c' ∨ c' = b) ∧ ∀ j, j < 96 → (D j ∨ j = b) → ¬ ltr P c' j = true := by
      unfold n6
      rw [e2, if_neg (nI_ne_m1 (by omega)), nI_clE (by omega)]
      by_cases z : ltr P c b = true
      · rw [if_pos z]
        refine ⟨b, hb, rfl, Or.inr rfl, ?_⟩
        rintro j hj (y | y)
        · have q := (hm j hj y).2
          rw [ltr_iff] at q z ⊢
          omega
        · subst y; exact irr
      · rw [if_neg z]
        refine ⟨c, hc, rfl, Or.inl d2, ?_⟩
        rintro j hj (y | y)
        · exact (hm j hj y).2
        · subst y; exact z
    obtain ⟨a', ha', g1, g2, g3⟩ := f5
    obtain ⟨c', hc', k1, k2, k3⟩ := f6
    exact ⟨a', c', ha', hc', g1, k1, g2, k2, fun j hj y => ⟨g3 j hj y, k3 j hj y⟩⟩
theorem ex_m1 {P : PSt} {D : Nat → Prop} {x5 x6 : Int32} (h : ExD P D x5 x6) : (x5 = m1 ∨ ∃ a, a < 96 ∧ x5 = nI a ∧ D a) ∧ (x6 = m1 ∨ ∃ c, c < 96 ∧ x6 = nI c ∧ D c) := by
  rcases h with ⟨e1, e2, -⟩ | ⟨a, c, ha, hc, e1, e2, d1, d2, -⟩
  · exact ⟨Or.inl e1, Or.inl e2⟩
  · exact ⟨Or.inr ⟨a, ha, e1, d1⟩, Or.inr ⟨c, hc, e2, d2⟩⟩
section
variable {P : PSt} {s : RSt} {n : Nat}
theorem c_isLater {a b : Nat} (ha : a < 96) (hb : b < 96) : xX6_isLater P (nI a) (nI b) = some (if ltr P a b then 1 else 0) := by
  unfold xX6_isLater xJ6_compare_7cf53
  rw [c_birthOf, bn1_s, rd_nI (by decide) ha, c_birthOf, bn1_s, rd_nI (by decide) hb]
  have hi := ltr_iff (P := P) (a := a) (b := b)
  unfold bt1 at hi
  by_cases h1 : P 8 b ≤ P 8 a
  · rw [if_pos h1]
    rw [Int32.le_iff_toInt_le] at h1
    by_cases h2 : P 8 a = P 8 b
    · rw [if_pos h2, bn1_s, if_pos zero_eq]
      rw [h2] at hi
      by_cases h3 : b ≤ a
      · rw [if_pos (by rw [nI_leE (by omega) (by omega)]; exact h3), if_neg (fun y => by have := hi.mp y; omega)]
      · rw [if_neg (by rw [nI_leE (by omega) (by omega)]; exact h3), if_pos (hi.mpr (by omega))]
    · rw [if_neg h2, bn1_s, if_neg one_ne, if_neg (by decide)]
      have h4 : ¬ (P 8 a).toInt = (P 8 b).toInt := fun z => h2 (Int32.toInt_inj.mp z)
      rw [if_pos (hi.mpr (by omega))]
  · rw [if_neg h1]
    rw [Int32.le_iff_toInt_le] at h1
    rw [bn1_s, if_neg (by decide), if_pos (by decide), if_neg (fun y => by have := hi.mp y; omega)]
theorem c_dead88 (kf : Int32 → Int32 → Int32 → Int32 → Int32 → Int32 → Option Int32) {x1 x2 x4 x6 x7 y0 : Int32} {b : Nat} (hb : b < 96) (h6 : x6 = m1 ∨ ∃ c, c < 96 ∧ x6 = nI c) : xX6_tellDead_88 P kf x1 x2 x4 x6 x7 (nI b) y0 = kf x1 x2 x4 y0 (n6 P x6 b) (x7 + 1) := by
  unfold xX6_tellDead_88 n6
  rcases h6 with z | ⟨c, hc, z⟩
  · rw [if_pos z, if_pos z]
  · rw [z, if_neg (nI_ne_m1 (by omega)), if_neg (nI_ne_m1 (by omega)), c_isLater hc hb, bn1_s, ite10, nI_clE (by omega)]
    by_cases q : ltr P c b = true
    · rw [if_pos q, if_pos q]
    · rw [if_neg q, if_neg q]
def pick3 (y x4 x5 x6 : Int32) : Int32 := if y = 0 then x4 else if y = 1 then x5 else x6
theorem pick3_s {y x4 x5 x6 : Int32} : (if y = 0 then some x4 else if y = 1 then some x5 else some x6) = some (pick3 y x4 x5 x6) := by
  unfold pick3
  split
  · rfl
  · split <;> rfl
theorem c_dead39 (hW : WInv P) {t : Nat} (ht : t < 20) (y : Int32) : ∃ x5 x6, xX6_tellDead_39 P 600 (nI t) y 0 m1 m1 0 = some (pick3 y (nI (cnt (fun k => decide (dd P t k ≠ m1)) 12)) x5 x6) ∧ ExD P (fun b => ∃ k, k < 12 ∧ dd P t k = nI b) x5 x6 := by
  have hl := loopI (fun m k (q : Int32 × Int32 × Int32) => xX6_tellDead_39 P m (nI t) y q.1 q.2.1 q.2.2 (nI k)) (fun K q => q.1 = nI (cnt (fun k => decide (dd P t k ≠ m1)) K) ∧ ExD P (fun b => ∃ k, k < K ∧ dd P t k = nI b) q.2.1 q.2.2) 12 (fun m k q hk hI => by
    obtain ⟨x4, x5, x6⟩ := q
    obtain ⟨h4, hx⟩ := hI
    dsimp only at h4 hx
    have e1 : nI k + 1 = nI (k + 1) := nI_succE k
    have cs := cnt_s (fun k => decide (dd P t k ≠ m1)) k
    show ∃ q' : Int32 × Int32 × Int32, xX6_tellDead_39 P (m + 1) (nI t) y x4 x5 x6 (nI k) = xX6_tellDead_39 P m (nI t) y q'.1 q'.2.1 q'.2.2 (nI (k + 1)) ∧ _
    rw [xX6_tellDead_39, if_neg (by rw [L12, nI_leE (by omega) (by omega)]; omega), c_deadIn ht hk, bn1_s]
    rcases dd_two hW ht k hk with z | ⟨b, hb, z⟩
    · rw [if_pos z, e1]
      refine ⟨(x4, x5, x6), rfl, ?_, ex_cong (fun b hb => ?_) hx⟩
      · rw [cs, if_neg (by rw [decide_eq_true_eq]; exact fun y => y z)]
        exact h4
      · constructor
        · rintro ⟨j, hj, e⟩; exact ⟨j, by omega, e⟩
        · rintro ⟨j, hj, e⟩
          refine ⟨j, ?_, e⟩
          rcases Nat.lt_or_ge j k with y | y
          · exact y
          · have : j = k := by omega
            subst this
            rw [z] at e
            exact absurd e.symm (nI_ne_m1 (by omega))
    · have hm := ex_m1 hx
      have h6 : x6 = m1 ∨ ∃ c, c < 96 ∧ x6 = nI c := hm.2.imp id (fun ⟨c, a, b, _⟩ => ⟨c, a, b⟩)
      refine ⟨(x4 + 1, n5 P x5 b, n6 P x6 b), ?_, ?_, ex_cong (fun j hj => ?_) (ex_step hb hx)⟩
      · rw [z, if_neg (nI_ne_m1 (by omega))]
        unfold n5
        rcases hm.1 with w | ⟨a, ha, w, -⟩
        · rw [if_pos w, if_pos w, c_dead88 _ hb h6, e1]
        · rw [w, if_neg (nI_ne_m1 (by omega)), if_neg (nI_ne_m1 (by omega)), c_isLater hb ha, bn1_s, ite10, nI_clE (by omega)]
          by_cases g : ltr P b a = true
          · rw [if_pos g, if_pos g, c_dead88 _ hb h6, e1]
          · rw [if_neg g, if_neg g, c_dead88 _ hb h6, e1]
      · rw [cs, if_pos (by rw [decide_eq_true_eq, z]; exact nI_ne_m1 (by omega))]
        show x4 + 1 = _
        rw [h4]
        exact nI_succE _
      · constructor
        · rintro (⟨i, hi, e⟩ | e)
          · exact ⟨i, by omega, e⟩
          · subst e; exact ⟨k, by omega, z⟩
        · rintro ⟨i, hi, e⟩
          rcases Nat.lt_or_ge i k with y | y
          · exact Or.inl ⟨i, y, e⟩
          · have : i = k := by omega
            subst this
            exact Or.inr (nI_lt_inj (by omega) (by omega) (e.symm.trans z))) 12 600 0 (0, m1, m1) (by omega) (by omega) ⟨rfl, Or.inl ⟨rfl, rfl, fun b _ ⟨j, hj, _⟩ => absurd hj (by omega)⟩⟩
  obtain ⟨m, ⟨x4, x5, x6⟩, e, h4, hx⟩ := hl
  refine ⟨x5, x6, ?_, hx⟩
  refine e.trans ?_
  dsimp only at h4
  show xX6_tellDead_39 P (m + 1) (nI t) y x4 x5 x6 (nI 12) = _
  rw [xX6_tellDead_39, if_pos (by rw [L12, nI_leE (by omega) (by omega)]; omega), pick3_s, h4]
theorem m_dead36 (hS : Sim P s) (hW : WInv P) {t : Nat} (ht : t < 20) (hst : hs P t) (y : Int32) : ∃ x5 x6, xX8_dead_36 s 600 (nI t) y 0 m1 m1 0 = some (pick3 y (nI (cnt (fun b => ddb P t b) 96)) x5 x6) ∧ ExD P (fun b => b < 96 ∧ ddb P t b = true) x5 x6 := by
  have hl := loopI (fun m k (q : Int32 × Int32 × Int32) => xX8_dead_36 s m (nI t) y q.1 q.2.1 q.2.2 (nI k)) (fun B q => q.1 = nI (cnt (fun b => ddb P t b) B) ∧ ExD P (fun b => b < B ∧ ddb P t b = true) q.2.1 q.2.2) 96 (fun m b q hb hI => by
    obtain ⟨x4, x5, x6⟩ := q
    obtain ⟨h4, hx⟩ := hI
    dsimp only at h4 hx
    have e1 : nI b + 1 = nI (b + 1) := nI_succE b
    have cs := cnt_s (fun b => ddb P t b) b
    show ∃ q' : Int32 × Int32 × Int32, xX8_dead_36 s (m + 1) (nI t) y x4 x5 x6 (nI b) = xX8_dead_36 s m (nI t) y q'.1 q'.2.1 q'.2.2 (nI (b + 1)) ∧ _
    rw [xX8_dead_36, if_neg (by rw [L96, nI_leE (by omega) (by omega)]; omega), m_isDead hS hW ht hb hst, bn1_s, ite10]
    by_cases z : ddb P t b = true
    · rw [if_pos z]
      have hm := ex_m1 hx
      have e8 : ∀ j, j < 96 → ddb P t j = true → s (458 + j) = P 8 j := fun j hj w => hS.2.2.2.2.2 j hj (ddb_sz hW ht hj w).1
      have a458 : ∀ j : Nat, (458 : Int32) + nI j = nI (458 + j) := fun j => nI_addE 458 j
      have k6 : ∀ (y0 : Int32) (kf : Int32 → Int32 → Int32 → Int32 → Int32 → Int32 → Option Int32), xX8_dead_94 s kf (nI t) y (x4 + 1) x6 (nI b) y0 = kf (nI t) y (x4 + 1) y0 (n6 P x6 b) (nI (b + 1)) := by
        intro y0 kf
        unfold xX8_dead_94 n6
        rcases hm.2 with w | ⟨c, hc, w, hcb, hcd⟩
        · rw [if_pos w, if_pos w, e1]
        · rw [w, if_neg (nI_ne_m1 (by omega)), if_neg (nI_ne_m1 (by omega)), a458, a458, ix_nI (by omega) (by omega), grd_t, ix_nI (by omega) (by omega), grd_t, nI_clE (by omega), nI_clE (by omega), nI_clE (by omega), e8 c hc hcd, e8 b hb z]
          have hi := ltr_iff (P := P) (a := c) (b := b)
          unfold bt1 at hi
          by_cases g : P 8 c < P 8 b
          · rw [if_pos g, if_neg, e1]
            rw [Int32.lt_iff_toInt_lt] at g
            exact fun y => by have := hi.mp y; omega
          · rw [if_neg g, if_pos, e1]
            rw [Int32.lt_iff_toInt_lt] at g
            exact hi.mpr (by omega)
      refine ⟨(x4 + 1, n5 P x5 b, n6 P x6 b), ?_, ?_, ex_cong (fun j hj => ?_) (ex_step hb hx)⟩
      · unfold n5
        rcases hm.1 with w | ⟨a, ha, w, hab, had⟩
        · rw [if_pos w, if_pos w, k6]
        · rw [w, if_neg (nI_ne_m1 (by omega)), if_neg (nI_ne_m1 (by omega)), a458, a458, ix_nI (by omega) (by omega), grd_t, ix_nI (by omega) (by omega), grd_t, nI_clE (by omega), nI_clE (by omega), nI_clE (by omega), e8 a ha had, e8 b hb z]
          have hi := ltr_iff (P := P) (a := b) (b := a)
          unfold bt1 at hi
          by_cases g : P 8 b ≤ P 8 a
          · rw [if_pos g, if_neg, k6]
            rw [Int32.le_iff_toInt_le] at g
            exact fun y => by have := hi.mp y; omega
          · rw [if_neg g, if_pos, k6]
            rw [Int32.le_iff_toInt_le] at g
            exact hi.mpr (by omega)
      · rw [cs, if_pos z]
        show x4 + 1 = _
        rw [h4]
        exact nI_succE _
      · constructor
        · rintro (⟨h1, h2⟩ | e)
          · exact ⟨by omega, h2⟩
          · subst e; exact ⟨by omega, z⟩
        · rintro ⟨h1, h2⟩
          rcases Nat.lt_or_ge j b with y | y
          · exact Or.inl ⟨y, h2⟩
          · exact Or.inr (by omega)
    · rw [if_neg z, e1]
      refine ⟨(x4, x5, x6), rfl, ?_, ex_cong (fun j hj => ?_) hx⟩
      · rw [cs, if_neg z]
        exact h4
      · constructor
        · rintro ⟨h1, h2⟩; exact ⟨by omega, h2⟩
        · rintro ⟨h1, h2⟩
          refine ⟨?_, h2⟩
          rcases Nat.lt_or_ge j b with y | y
          · exact y
          · have : j = b := by omega
            subst this
            exact absurd h2 z) 96 600 0 (0, m1, m1) (by omega) (by omega) ⟨rfl, Or.inl ⟨rfl, rfl, fun b _ ⟨hj, _⟩ => absurd hj (by omega)⟩⟩
  obtain ⟨m, ⟨x4, x5, x6⟩, e, h4, hx⟩ := hl
  refine ⟨x5, x6, ?_, hx⟩
  refine e.trans ?_
  dsimp only at h4
  show xX8_dead_36 s (m + 1) (nI t) y x4 x5 x6 (nI 96) = _
  rw [xX8_dead_36, if_pos (by rw [L96, nI_leE (by omega) (by omega)]; omega), pick3_s, h4]
theorem q_dead (h : Good P s n) (x y : Int32) : ∃ r, xX7_dead P x y = some r ∧ xX8_dead s x y = some r := by
  obtain ⟨hI, hS, -⟩ := h
  have hW := hI.w
  unfold xX7_dead xX6_tellDead xX8_dead
  rw [bn1_id, c_in, m_in, bn1_s, ite10]
  by_cases hy : 0 ≤ y ∧ y ≤ 2
  · rw [if_pos hy, if_pos hy, c_refH, m_askedSlots hS hI.1, bn1_s, bn1_s]
    by_cases hr : refH P x = 0
    · rw [if_pos hr, if_pos hr]
      obtain ⟨t, ht, rfl, hst⟩ := refH_ok hI.1 hr
      obtain ⟨x5, x6, e1, h1⟩ := c_dead39 hW ht y
      obtain ⟨y5, y6, e2, h2⟩ := m_dead36 hS hW ht hst y
      have h1' := ex_cong (E := fun b => b < 96 ∧ ddb P t b = true) (fun b hb => by
        rw [ddb_ex]
        exact ⟨fun z => ⟨hb, z⟩, fun z => z.2⟩) h1
      obtain ⟨g5, g6⟩ := ex_uniq h1' h2
      have hc := cnt_sl (dd_two hW ht) (dd_inj hW ht) 12 (by omega)
      refine ⟨_, e1, e2.trans ?_⟩
      rw [g5, g6, hc]
      rfl
    · rw [if_neg hr, if_neg hr]
      exact ⟨_, rfl, rfl⟩
  · rw [if_neg hy, if_neg hy]
    exact ⟨_, rfl, rfl⟩
end
