/-! ===== what holds of a pool at all times ===== -/
def isF (P : PSt) (t : Nat) : Prop := P 0 t = 0 ∨ P 0 t = 1
def isS (P : PSt) (t : Nat) : Prop := P 0 t = 2 ∨ P 0 t = 3
def hs (P : PSt) (t : Nat) : Prop := isF P t ∨ isS P t
def md (P : PSt) (t : Nat) : Int := (P 1 t).toInt
def bt1 (P : PSt) (b : Nat) : Int := (P 8 b).toInt
def sz1 (P : PSt) (b : Nat) : Int := (P 7 b).toInt
def tm (P : PSt) : Int := (P 9 0).toInt
/-- the block b stands in slot k of t -/
def hl (P : PSt) (t k b : Nat) : Prop := P 6 (t * 12 + k) = nI b
/-- t's own first holder of b along its chain -/
def top (P : PSt) (t b : Nat) : Prop := ∀ u, u < 20 → P 2 t = nI u → md P u < bt1 P b
def I_kind (P : PSt) : Prop := ∀ t, t < 20 → P 0 t = m1 ∨ hs P t ∨ P 0 t = 4
def I_none (P : PSt) : Prop := ∀ t, t < 20 → P 0 t = m1 → P 4 t = 0 ∧ P 5 t = m1
def I_bare (P : PSt) : Prop := ∀ t, t < 20 → ¬ hs P t → P 2 t = m1 ∧ P 3 t = m1 ∧ ∀ k, k < 12 → P 6 (t * 12 + k) = m1
def I_files (P : PSt) : Prop := ∀ t, t < 20 → isF P t → P 3 t = m1 ∧ (P 0 t = 0 → P 5 t = m1) ∧ (P 0 t = 1 → P 5 t ≠ m1)
def I_snap (P : PSt) : Prop := ∀ t, t < 20 → isS P t → ∃ f, f < 20 ∧ P 3 t = nI f ∧ isF P f ∧ (P 2 f = nI t ∨ ∃ u, u < 20 ∧ isS P u ∧ P 3 u = nI f ∧ P 2 u = nI t)
def I_prev (P : PSt) : Prop := ∀ t, t < 20 → P 2 t = m1 ∨ ∃ u, u < 20 ∧ P 2 t = nI u ∧ isS P u ∧ (isS P t → md P u < md P t)
def I_made (P : PSt) : Prop := ∀ t, t < 20 → isS P t → 1 ≤ md P t ∧ md P t < tm P
def I_slot (P : PSt) : Prop := ∀ t k, t < 20 → k < 12 → P 6 (t * 12 + k) = m1 ∨ ∃ b, b < 96 ∧ hl P t k b ∧ 1 ≤ sz1 P b
def I_size (P : PSt) : Prop := ∀ b, b < 96 → 0 ≤ sz1 P b ∧ sz1 P b ≤ 1000000000 ∧ (sz1 P b ≠ 0 → 1 ≤ bt1 P b ∧ bt1 P b ≤ tm P ∧ ∃ t k, t < 20 ∧ k < 12 ∧ hl P t k b)
def I_same (P : PSt) : Prop := ∀ t t' k k' b, t < 20 → t' < 20 → k < 12 → k' < 12 → b < 96 → hl P t k b → hl P t' k' b → k = k'
def I_born (P : PSt) : Prop := ∀ t k b, t < 20 → k < 12 → b < 96 → isS P t → hl P t k b → bt1 P b ≤ md P t
def I_keep (P : PSt) : Prop := ∀ t u k b, t < 20 → u < 20 → k < 12 → b < 96 → P 2 t = nI u → hl P t k b → bt1 P b ≤ md P u → hl P u k b
def I_top (P : PSt) : Prop := ∀ t t' k b, t < 20 → t' < 20 → k < 12 → b < 96 → hl P t k b → hl P t' k b → top P t b → top P t' b → t = t'
def Inv (P : PSt) : Prop := I_kind P ∧ I_none P ∧ I_bare P ∧ I_files P ∧ I_snap P ∧ I_prev P ∧ I_made P ∧ I_slot P ∧ I_size P ∧ I_same P ∧ I_born P ∧ I_keep P ∧ I_top P ∧ 1 ≤ tm P
theorem sF {P : PSt} {t : Nat} (h : isS P t) : ¬ isF P t := by
  rintro (h2 | h2) <;> rcases h with h | h <;> rw [h] at h2 <;> revert h2 <;> decide
theorem sN {P : PSt} {t : Nat} (h : hs P t) : P 0 t ≠ m1 := by
  rcases h with (h | h) | (h | h) <;> rw [h] <;> decide
theorem s4 {P : PSt} {t : Nat} (h : hs P t) : P 0 t ≠ 4 := by
  rcases h with (h | h) | (h | h) <;> rw [h] <;> decide
theorem nhs_m1 {P : PSt} {t : Nat} (h : P 0 t = m1) : ¬ hs P t := fun h2 => sN h2 h
theorem nhs_4 {P : PSt} {t : Nat} (h : P 0 t = 4) : ¬ hs P t := fun h2 => s4 h2 h
theorem nI_lt_inj {a b : Nat} (ha : a < 100) (hb : b < 100) (h : nI a = nI b) : a = b := by
  rw [nI_inj (by omega) (by omega)] at h
  exact h
theorem nI_ne_m1 {a : Nat} (ha : a < 100) : nI a ≠ m1 := by
  intro h
  rw [nI_m1 (by omega)] at h
  exact h
/-- who holds something has slots -/
theorem hl_hs {P : PSt} (hI : I_bare P) {t k b : Nat} (ht : t < 20) (hk : k < 12) (hb : b < 96) (h : hl P t k b) : hs P t := by
  rcases Classical.em (hs P t) with h1 | h1
  · exact h1
  · have h2 := (hI t ht h1).2.2 k hk
    unfold hl at h
    rw [h2] at h
    exact absurd h.symm (nI_ne_m1 (by omega))
theorem pv_hs {P : PSt} (hI : I_bare P) {t u : Nat} (ht : t < 20) (hu : u < 20) (h : P 2 t = nI u) : hs P t := by
  rcases Classical.em (hs P t) with h1 | h1
  · exact h1
  · have h2 := (hI t ht h1).1
    rw [h2] at h
    exact absurd h.symm (nI_ne_m1 (by omega))
theorem pv_isS {P : PSt} (hI : I_prev P) {t u : Nat} (ht : t < 20) (hu : u < 20) (h : P 2 t = nI u) : isS P u ∧ (isS P t → md P u < md P t) := by
  rcases hI t ht with h1 | ⟨v, hv, e, h2⟩
  · rw [h1] at h
    exact absurd h.symm (nI_ne_m1 (by omega))
  · have := nI_lt_inj (by omega) (by omega) (e.symm.trans h)
    subst this
    exact h2
theorem hl_sz {P : PSt} (hI : I_slot P) {t k b : Nat} (ht : t < 20) (hk : k < 12) (hb : b < 96) (h : hl P t k b) : 1 ≤ sz1 P b := by
  rcases hI t k ht hk with h1 | ⟨c, hc, h1, h2⟩
  · unfold hl at h
    rw [h1] at h
    exact absurd h.symm (nI_ne_m1 (by omega))
  · have := nI_lt_inj (by omega) (by omega) (h1.symm.trans h)
    subst this
    exact h2
/-- from any holder down the chain there is a first one; it is of the snapshots, unless it is where one began -/
theorem top_down {P : PSt} (hI : Inv P) {k b : Nat} (hk : k < 12) (hb : b < 96) : ∀ (n : Nat) (t : Nat), t < 20 → isS P t → (md P t).toNat ≤ n → hl P t k b → ∃ x, x < 20 ∧ isS P x ∧ hl P x k b ∧ top P x b := by
  obtain ⟨-, -, -, -, -, hprev, hmade, -, -, -, -, hkeep, -, -⟩ := hI
  intro n
  induction n with
  | zero =>
    intro t ht hst hn _
    have := (hmade t ht hst).1
    omega
  | succ n ih =>
    intro t ht hst hn hh
    rcases Classical.em (top P t b) with h1 | h1
    · exact ⟨t, ht, hst, hh, h1⟩
    · have h2 : ∃ u, u < 20 ∧ P 2 t = nI u ∧ bt1 P b ≤ md P u := by
        rcases Classical.em (∃ u, u < 20 ∧ P 2 t = nI u ∧ bt1 P b ≤ md P u) with h | h
        · exact h
        · exact absurd (fun u hu e => by
            rcases Classical.em (md P u < bt1 P b) with h3 | h3
            · exact h3
            · exact absurd ⟨u, hu, e, by omega⟩ h) h1
      obtain ⟨u, hu, e, h3⟩ := h2
      have h4 := pv_isS hprev ht hu e
      have h5 := h4.2 hst
      have h6 := (hmade u hu h4.1).1
      exact ih u hu h4.1 (by omega) (hkeep t u k b ht hu hk hb e hh h3)
theorem top_or {P : PSt} {t b : Nat} : top P t b ∨ ∃ u, u < 20 ∧ P 2 t = nI u ∧ bt1 P b ≤ md P u := by
  rcases Classical.em (∃ u, u < 20 ∧ P 2 t = nI u ∧ bt1 P b ≤ md P u) with h | h
  · exact Or.inr h
  · exact Or.inl (fun u hu e => by
      rcases Classical.em (md P u < bt1 P b) with h3 | h3
      · exact h3
      · exact absurd ⟨u, hu, e, by omega⟩ h)
/-- files that are first alone hold it -/
theorem top_files {P : PSt} (hI : Inv P) {f k b : Nat} (hf : f < 20) (hk : k < 12) (hb : b < 96) (hF : isF P f) (hh : hl P f k b) (ht : top P f b) {t k' : Nat} (ht20 : t < 20) (hk' : k' < 12) (h : hl P t k' b) : t = f ∧ k' = k := by
  have hI2 := hI
  obtain ⟨hkind, -, hbare, -, -, hprev, hmade, -, -, hsame, -, hkeep, htop, -⟩ := hI2
  have hkk := hsame t f k' k b ht20 hf hk' hk hb h hh
  subst hkk
  refine ⟨?_, rfl⟩
  rcases top_or (P := P) (t := t) (b := b) with h1 | ⟨u, hu, e, h1⟩
  · exact htop t f k' b ht20 hf hk' hb h hh h1 ht
  · have h2 := hkeep t u k' b ht20 hu hk' hb e h h1
    have h3 := (pv_isS hprev ht20 hu e).1
    obtain ⟨x, hx, hxs, hxh, hxt⟩ := top_down hI hk' hb (md P u).toNat u hu h3 (Nat.le_refl _) h2
    have := htop x f k' b hx hf hk' hb hxh hh hxt ht
    subst this
    exact absurd hF (sF hxs)
/-- a first snapshot whose one follower doesn't hold it alone holds it -/
theorem top_snap {P : PSt} (hI : Inv P) {S k b : Nat} (hS : S < 20) (hk : k < 12) (hb : b < 96) (hh : hl P S k b) (ht : top P S b) (hN : ∀ u, u < 20 → P 2 u = nI S → ¬ hl P u k b) {t k' : Nat} (ht20 : t < 20) (hk' : k' < 12) (h : hl P t k' b) : t = S ∧ k' = k := by
  have hI2 := hI
  obtain ⟨hkind, -, hbare, -, -, hprev, hmade, -, -, hsame, -, hkeep, htop, -⟩ := hI2
  have hkk := hsame t S k' k b ht20 hS hk' hk hb h hh
  subst hkk
  refine ⟨?_, rfl⟩
  -- a snapshot that holds it is S
  have key : ∀ (n : Nat) (u : Nat), u < 20 → isS P u → (md P u).toNat ≤ n → hl P u k' b → u = S := by
    intro n
    induction n with
    | zero =>
      intro u hu hus hn _
      have := (hmade u hu hus).1
      omega
    | succ n ih =>
      intro u hu hus hn huh
      rcases top_or (P := P) (t := u) (b := b) with h1 | ⟨v, hv, e, h1⟩
      · exact htop u S k' b hu hS hk' hb huh hh h1 ht
      · have h2 := hkeep u v k' b hu hv hk' hb e huh h1
        have h3 := pv_isS hprev hu hv e
        have h4 := h3.2 hus
        have h5 := (hmade v hv h3.1).1
        have h6 := ih v hv h3.1 (by omega) h2
        subst h6
        exact absurd huh (hN u hu e)
  rcases top_or (P := P) (t := t) (b := b) with h1 | ⟨u, hu, e, h1⟩
  · exact htop t S k' b ht20 hS hk' hb h hh h1 ht
  · have h2 := hkeep t u k' b ht20 hu hk' hb e h h1
    have h3 := (pv_isS hprev ht20 hu e).1
    have h4 := key (md P u).toNat u hu h3 (Nat.le_refl _) h2
    subst h4
    exact absurd h (hN t ht20 e)
/-! ===== what is freed where nothing holds it ===== -/
def held (P : PSt) (b : Nat) : Prop := ∃ t k, t < 20 ∧ k < 12 ∧ hl P t k b
/-- P' is Q with all that nothing holds freed, n in all -/
def GC (Q P' : PSt) (n : Nat) : Prop := (∀ a i, a ≤ 6 → P' a i = Q a i) ∧ P' 9 0 = Q 9 0 ∧ (∀ b, b < 96 → held Q b → P' 7 b = Q 7 b ∧ P' 8 b = Q 8 b) ∧ (∀ b, b < 96 → ¬ held Q b → P' 7 b = 0) ∧ P' 10 0 = Q 10 0 + nI n ∧ ∃ p : Nat → Bool, (∀ b, b < 96 → (p b = true ↔ (Q 7 b ≠ 0 ∧ ¬ held Q b))) ∧ cnt p 96 = n
theorem held_cong {P Q : PSt} (h : ∀ i, P 6 i = Q 6 i) (b : Nat) : held P b ↔ held Q b := by
  unfold held hl
  simp only [h]
theorem cnt_or {p q r : Nat → Bool} : ∀ {n : Nat}, (∀ k, k < n → (r k = true ↔ (p k = true ∨ q k = true))) → (∀ k, k < n → ¬ (p k = true ∧ q k = true)) → cnt r n = cnt p n + cnt q n
  | 0, _, _ => rfl
  | n + 1, h, h2 => by
    rw [cnt_s, cnt_s, cnt_s, cnt_or (fun k hk => h k (by omega)) (fun k hk => h2 k (by omega))]
    have a := h n (by omega)
    have b := h2 n (by omega)
    cases hp : p n <;> cases hq : q n <;> cases hr : r n <;> simp [hp, hq, hr] at a b ⊢ <;> omega
/-- freeing in two steps -/
theorem GC_two {Q P1 Q2 P2 : PSt} {n1 n2 : Nat} {i : Nat} (h1 : GC Q P1 n1) (e : Q2 = st P1 6 i m1) (h2 : GC Q2 P2 n2) : GC (st Q 6 i m1) P2 (n1 + n2) := by
  obtain ⟨a1, b1, c1, d1, f1, p1, g1, k1⟩ := h1
  obtain ⟨a2, b2, c2, d2, f2, p2, g2, k2⟩ := h2
  subst e
  have hs6 : ∀ j, st P1 6 i m1 6 j = st Q 6 i m1 6 j := fun j => by rw [st_if, st_if, a1 6 j (by omega)]
  have hh : ∀ b, held (st P1 6 i m1) b ↔ held (st Q 6 i m1) b := held_cong hs6
  have hsub : ∀ b, b < 96 → held (st Q 6 i m1) b → held Q b := by
    rintro b hb ⟨t, k, ht, hk, h⟩
    refine ⟨t, k, ht, hk, ?_⟩
    unfold hl at h ⊢
    rw [st_if] at h
    split at h
    · exact absurd h.symm (nI_ne_m1 (by omega))
    · exact h
  have hst : ∀ (R : PSt) (a j : Nat), a ≠ 6 → st R 6 i m1 a j = R a j := fun R a j ha => st_ne1 ha
  refine ⟨fun a j ha => ?_, ?_, fun b hb h => ?_, fun b hb h => ?_, ?_, fun b => p1 b || p2 b, fun b hb => ?_, ?_⟩
  · rw [a2 a j ha, st_if, st_if, a1 a j ha]
  · rw [b2, hst _ _ _ (by decide), hst _ _ _ (by decide), b1]
  · have h3 := c2 b hb ((hh b).mpr h)
    have h4 := c1 b hb (hsub b hb h)
    rw [hst _ _ _ (by decide), hst _ _ _ (by decide)] at h3
    rw [hst _ _ _ (by decide), hst _ _ _ (by decide)]
    exact ⟨h3.1.trans h4.1, h3.2.trans h4.2⟩
  · exact d2 b hb (fun z => h ((hh b).mp z))
  · rw [f2, hst _ _ _ (by decide), f1, hst _ _ _ (by decide), ← nI_addE, Int32.add_assoc]
  · have q1 := g1 b hb
    have q2 := g2 b hb
    rw [hst _ _ _ (by decide), hh] at q2
    rw [hst _ _ _ (by decide), Bool.or_eq_true, q1, q2]
    rcases Classical.em (held Q b) with z | z
    · rw [(c1 b hb z).1]
      constructor
      · rintro (⟨-, h⟩ | h)
        · exact absurd z h
        · exact h
      · intro h
        exact Or.inr h
    · rw [d1 b hb z]
      constructor
      · rintro (h | ⟨h, -⟩)
        · exact ⟨h.1, fun w => z (hsub b hb w)⟩
        · exact absurd rfl h
      · intro h
        exact Or.inl ⟨h.1, z⟩
  · rw [← k1, ← k2]
    refine cnt_or (fun b hb => by simp [Bool.or_eq_true]) (fun b hb z => ?_)
    have q1 := (g1 b hb).mp z.1
    have q2 := (g2 b hb).mp z.2
    rw [hst _ _ _ (by decide)] at q2
    exact q2.1 (d1 b hb q1.2)
theorem GC_refl {Q : PSt} (h : ∀ b, b < 96 → Q 7 b ≠ 0 → held Q b) : GC Q Q 0 := by
  refine ⟨fun _ _ _ => rfl, rfl, fun _ _ _ => ⟨rfl, rfl⟩, fun b hb h1 => ?_, ?_, fun _ => false, fun b hb => ?_, cnt_zero.mpr (fun _ _ => rfl)⟩
  · rcases Classical.em (Q 7 b = 0) with h2 | h2
    · exact h2
    · exact absurd (h b hb h2) h1
  · show Q 10 0 = Q 10 0 + nI 0
    rw [nI_add0]
  · constructor
    · intro h; cases h
    · rintro ⟨h1, h2⟩
      exact absurd (h b hb h1) h2
