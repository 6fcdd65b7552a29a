/-! ===== chains, and who owns what in them ===== -/
theorem holes : ∀ (m n : Nat) (f : Nat → Nat), (∀ i, i < n → f i < m) → (∀ i j, i < j → j < n → f i ≠ f j) → n ≤ m := by
  intro m
  induction m with
  | zero =>
    intro n f h _
    rcases Nat.eq_zero_or_pos n with h0 | h0
    · omega
    · exact absurd (h 0 h0) (Nat.not_lt_zero _)
  | succ m ih =>
    intro n f h h2
    rcases Nat.eq_zero_or_pos n with h0 | h0
    · omega
    · -- the last value is swapped out
      have e : n - 1 ≤ m := by
        refine ih (n - 1) (fun i => if f i = m then f (n - 1) else f i) (fun i hi => ?_) (fun i j hij hj => ?_)
        · have a := h i (by omega)
          have b := h (n - 1) (by omega)
          have c := h2 i (n - 1) (by omega) (by omega)
          show (if f i = m then f (n - 1) else f i) < m
          split
          · omega
          · omega
        · have c := h2 i j hij (by omega)
          have c1 := h2 i (n - 1) (by omega) (by omega)
          have c2 := h2 j (n - 1) (by omega) (by omega)
          show (if f i = m then f (n - 1) else f i) ≠ (if f j = m then f (n - 1) else f j)
          split <;> split <;> omega
      omega
theorem pvo_nI {P : PSt} {t : Nat} (ht : t < 20) : pvo P (nI t) = P 2 t := rd_nI (by decide) ht
theorem pvo_m1 {P : PSt} : pvo P m1 = m1 := rd_m1
theorem itr_s (P : PSt) (x : Int32) (k : Nat) : itr P (pvo P x) k = itr P x (k + 1) := by
  have h := itr_add P x 1 k
  rw [show 1 + k = k + 1 by omega] at h
  exact h.symm
/-- behind its first, a chain has snapshots alone -/
theorem ch_snap {P : PSt} (hI : I_prev P) {f : Nat} (hf : f < 20) : ∀ i, itr P (nI f) (i + 1) = m1 ∨ ∃ t, t < 20 ∧ itr P (nI f) (i + 1) = nI t ∧ isS P t
  | 0 => by
    show pvo P (nI f) = m1 ∨ ∃ t, t < 20 ∧ pvo P (nI f) = nI t ∧ isS P t
    rw [pvo_nI hf]
    rcases hI f hf with h | ⟨u, hu, a, b, -⟩
    · exact Or.inl h
    · exact Or.inr ⟨u, hu, a, b⟩
  | i + 1 => by
    show pvo P (itr P (nI f) (i + 1)) = m1 ∨ ∃ t, t < 20 ∧ pvo P (itr P (nI f) (i + 1)) = nI t ∧ isS P t
    rcases ch_snap hI hf i with h | ⟨t, ht, a, b⟩
    · rw [h]; exact Or.inl pvo_m1
    · rw [a, pvo_nI ht]
      rcases hI t ht with h | ⟨u, hu, c, d, -⟩
      · exact Or.inl h
      · exact Or.inr ⟨u, hu, c, d⟩
theorem ch_next {P : PSt} {x : Int32} {i t : Nat} (ht : t < 20) (h : itr P x i = nI t) : itr P x (i + 1) = P 2 t := by
  show pvo P (itr P x i) = P 2 t
  rw [h, pvo_nI ht]
theorem ch_end {P : PSt} {x : Int32} {i : Nat} (h : itr P x i = m1) (j : Nat) (hj : i ≤ j) : itr P x j = m1 := by
  rw [show j = i + (j - i) by omega, itr_add, h, itr_m1]
theorem ch_dec1 {P : PSt} (hI : I_prev P) {f : Nat} (hf : f < 20) {i t u : Nat} (ht : t < 20) (hu : u < 20) (h1 : itr P (nI f) (i + 1) = nI t) (h2 : itr P (nI f) (i + 2) = nI u) : md P u < md P t := by
  have hs1 : isS P t := by
    rcases ch_snap hI hf i with h | ⟨v, hv, a, b⟩
    · rw [h] at h1; exact absurd h1.symm (nI_ne_m1 (by omega))
    · have := nI_lt_inj (by omega) (by omega) (h1.symm.trans a); subst this; exact b
  rw [ch_next ht h1] at h2
  exact (pv_isS hI ht hu h2).2 hs1
theorem ch_dec {P : PSt} (hI : I_prev P) {f : Nat} (hf : f < 20) {i : Nat} : ∀ {d t u : Nat}, t < 20 → u < 20 → itr P (nI f) (i + 1) = nI t → itr P (nI f) (i + 1 + (d + 1)) = nI u → md P u < md P t
  | 0, t, u, ht, hu, h1, h2 => ch_dec1 hI hf ht hu h1 h2
  | d + 1, t, u, ht, hu, h1, h2 => by
    rcases ch_snap hI hf (i + (d + 1)) with h | ⟨v, hv, a, b⟩
    · have := ch_end h (i + 1 + (d + 1 + 1)) (by omega)
      rw [this] at h2
      exact absurd h2.symm (nI_ne_m1 (by omega))
    · have a' : itr P (nI f) (i + 1 + (d + 1)) = nI v := by rw [show i + 1 + (d + 1) = i + (d + 1) + 1 by omega]; exact a
      have h3 := ch_dec hI hf ht hv h1 a'
      have h4 : md P u < md P v := by
        refine ch_dec1 hI hf (i := i + (d + 1)) hv hu a ?_
        rw [show i + (d + 1) + 2 = i + 1 + (d + 1 + 1) by omega]; exact h2
      omega
theorem ch_lt {P : PSt} (hI : I_prev P) {f : Nat} (hf : f < 20) {i j t u : Nat} (hij : i < j) (ht : t < 20) (hu : u < 20) (h1 : itr P (nI f) (i + 1) = nI t) (h2 : itr P (nI f) (j + 1) = nI u) : md P u < md P t := by
  refine ch_dec hI hf (d := j - i - 1) ht hu h1 ?_
  rw [show i + 1 + (j - i - 1 + 1) = j + 1 by omega]; exact h2
theorem ch_inj {P : PSt} (hI : I_prev P) {f : Nat} (hf : f < 20) {i j t : Nat} (ht : t < 20) (h1 : itr P (nI f) (i + 1) = nI t) (h2 : itr P (nI f) (j + 1) = nI t) : i = j := by
  rcases Nat.lt_or_ge i j with h | h
  · have := ch_lt hI hf h ht ht h1 h2; omega
  · rcases Nat.lt_or_ge j i with h' | h'
    · have := ch_lt hI hf h' ht ht h2 h1; omega
    · omega
/-- no chain is longer than there are things beside its first -/
theorem ch_short {P : PSt} (hI : I_prev P) {f : Nat} (hf : f < 20) (hff : isF P f ∨ isS P f) : itr P (nI f) 20 = m1 := by
  rcases Classical.em (itr P (nI f) 20 = m1) with h | h
  · exact h
  · exfalso
    have hall : ∀ i, i ≤ 20 → itr P (nI f) i ≠ m1 := fun i hi z => h (ch_end z 20 hi)
    have hex : ∀ i, ∃ t, i ≤ 20 → t < 20 ∧ itr P (nI f) i = nI t ∧ (1 ≤ i → isS P t) := by
      intro i
      rcases Nat.lt_or_ge 20 i with hi | hi
      · exact ⟨0, fun z => by omega⟩
      · rcases Nat.eq_zero_or_pos i with h0 | h0
        · subst h0
          exact ⟨f, fun _ => ⟨hf, rfl, fun z => by omega⟩⟩
        · obtain ⟨j, rfl⟩ : ∃ j, i = j + 1 := ⟨i - 1, by omega⟩
          rcases ch_snap hI hf j with h1 | ⟨t, ht, a, b⟩
          · exact absurd h1 (hall _ hi)
          · exact ⟨t, fun _ => ⟨ht, a, fun _ => b⟩⟩
    have hc := fun i => Classical.choose_spec (hex i)
    have key := holes 20 21 (fun i => Classical.choose (hex i)) (fun i hi => (hc i (by omega)).1) (fun i j hij hj e => by
      have ci := hc i (by omega)
      have cj := hc j (by omega)
      have e' : Classical.choose (hex i) = Classical.choose (hex j) := e
      rw [e'] at ci
      obtain ⟨j', rfl⟩ : ∃ j', j = j' + 1 := ⟨j - 1, by omega⟩
      rcases Nat.eq_zero_or_pos i with h0 | h0
      · subst h0
        have h1 : Classical.choose (hex (j' + 1)) = f := (nI_lt_inj (by omega) (by omega) (ci.2.1.symm.trans rfl))
        have h2 := cj.2.2 (by omega)
        rw [h1] at h2
        rcases hff with hff | hff
        · exact sF h2 hff
        · -- a snapshot that is behind itself
          have h3 : itr P (nI f) (j' + 1) = nI f := by have := cj.2.1; rw [h1] at this; exact this
          rcases ch_snap hI hf 0 with h4 | ⟨t, ht, a, b⟩
          · exact absurd h4 (hall _ (by omega))
          · have g1 := (pv_isS hI hf ht ((ch_next (P := P) (x := nI f) (i := 0) hf rfl).symm.trans a)).2 hff
            rcases Nat.eq_zero_or_pos j' with h5 | h5
            · subst h5
              have : t = f := nI_lt_inj (by omega) (by omega) (a.symm.trans h3)
              subst this; omega
            · have g2 := ch_lt hI hf h5 ht hf a h3
              omega
      · obtain ⟨i', rfl⟩ : ∃ i', i = i' + 1 := ⟨i - 1, by omega⟩
        have := ch_inj hI hf ci.1 ci.2.1 cj.2.1
        omega)
    omega
/-- what files own stands in their chain, and all ahead of it is theirs too -/
theorem own_chain {P : PSt} (hs5 : I_snap P) (hs7 : I_made P) (hs6 : I_prev P) {g : Nat} (hg : g < 20) : ∀ (n : Nat) (t : Nat), t < 20 → isS P t → P 3 t = nI g → (tm P - md P t).toNat ≤ n → ∃ m, itr P (nI g) (m + 1) = nI t ∧ ∀ j, j ≤ m → ∃ x, x < 20 ∧ itr P (nI g) (j + 1) = nI x ∧ P 3 x = nI g ∧ isS P x := by
  intro n
  induction n with
  | zero =>
    intro t ht h1 _ h3
    have := hs7 t ht h1
    omega
  | succ n ih =>
    intro t ht h1 h2 h3
    obtain ⟨f, hf, a1, a2, a3⟩ := hs5 t ht h1
    have : f = g := nI_lt_inj (by omega) (by omega) (a1.symm.trans h2)
    subst this
    rcases a3 with a3 | ⟨u, hu, b1, b2, b3⟩
    · refine ⟨0, by show pvo P (nI f) = nI t; rw [pvo_nI hf]; exact a3, fun j hj => ?_⟩
      have : j = 0 := by omega
      subst this
      exact ⟨t, ht, by show pvo P (nI f) = nI t; rw [pvo_nI hf]; exact a3, h2, h1⟩
    · have h4 := (pv_isS hs6 hu ht b3).2 b1
      have h5 := hs7 u hu b1
      have h6 := hs7 t ht h1
      obtain ⟨m, c1, c2⟩ := ih u hu b1 b2 (by omega)
      have c3 : itr P (nI f) (m + 1 + 1) = nI t := (ch_next hu c1).trans b3
      refine ⟨m + 1, c3, fun j hj => ?_⟩
      rcases Nat.lt_or_ge m j with h7 | h7
      · have : j = m + 1 := by omega
        subst this
        exact ⟨t, ht, c3, h2, h1⟩
      · exact c2 j h7
theorem cnt_img {N : Nat} : ∀ (L : Nat) (x : Nat → Nat) (p : Nat → Bool), (∀ i, i < L → x i < N) → (∀ i j, i < j → j < L → x i ≠ x j) → (∀ t, t < N → (p t = true ↔ ∃ i, i < L ∧ x i = t)) → cnt p N = L
  | 0, x, p, _, _, h3 => cnt_zero.mpr (fun t ht => by
      cases hp : p t with
      | false => rfl
      | true => obtain ⟨i, hi, -⟩ := (h3 t ht).mp hp; omega)
  | L + 1, x, p, h1, h2, h3 => by
    have ih := cnt_img (N := N) L x (fun t => p t && decide (t ≠ x L)) (fun i hi => h1 i (by omega)) (fun i j hij hj => h2 i j hij (by omega)) (fun t ht => by
      rw [Bool.and_eq_true, decide_eq_true_eq, h3 t ht]
      constructor
      · rintro ⟨⟨i, hi, e⟩, hne⟩
        exact ⟨i, by
          rcases Nat.lt_or_ge i L with h | h
          · exact h
          · exact absurd (by rw [← e, show i = L by omega]) hne, e⟩
      · rintro ⟨i, hi, e⟩
        exact ⟨⟨i, by omega, e⟩, fun z => h2 i L hi (by omega) (e.trans z)⟩)
    have h4 := cnt_add1 (p := p) (q := fun t => p t && decide (t ≠ x L)) (i := x L) (n := N) (h1 L (by omega)) (fun k hk hne => by simp [hne]) ((h3 (x L) (h1 L (by omega))).mpr ⟨L, by omega, rfl⟩) (by simp)
    rw [h4, ih]
/-- whoever has an owner is a snapshot -/
theorem own_isS {P : PSt} (h3 : I_bare P) (h4 : I_files P) {t g : Nat} (ht : t < 20) (hg : g < 20) (h : P 3 t = nI g) : isS P t := by
  rcases Classical.em (hs P t) with h1 | h1
  · rcases h1 with h1 | h1
    · rw [(h4 t ht h1).1] at h; exact absurd h.symm (nI_ne_m1 (by omega))
    · exact h1
  · rw [(h3 t ht h1).2.1] at h; exact absurd h.symm (nI_ne_m1 (by omega))
/-- the own snapshots are the first of the chain, as many as are counted -/
theorem own_pref {P : PSt} (hI : WInv P) {g : Nat} (hg : g < 20) (hF : isF P g) : (∀ j, j < owc P (nI g) → ∃ x, x < 20 ∧ itr P (nI g) (j + 1) = nI x ∧ P 3 x = nI g ∧ isS P x) ∧ (∀ x, x < 20 → itr P (nI g) (owc P (nI g) + 1) = nI x → P 3 x ≠ nI g) ∧ (∀ t, t < 20 → P 3 t = nI g → ∃ j, j < owc P (nI g) ∧ itr P (nI g) (j + 1) = nI t) ∧ owc P (nI g) < 20 := by
  obtain ⟨w1, w2, w3, w4, w5, w6, w7, w8, w9, w10, w11, w12, w13, w14⟩ := hI
  have hsh := ch_short w6 hg (Or.inl hF)
  -- the first place that isn't its own
  have hL : ∃ L, L < 20 ∧ (∀ j, j < L → ∃ x, x < 20 ∧ itr P (nI g) (j + 1) = nI x ∧ P 3 x = nI g ∧ isS P x) ∧ ¬ (∃ x, x < 20 ∧ itr P (nI g) (L + 1) = nI x ∧ P 3 x = nI g) := by
    have hno : ¬ (∃ x, x < 20 ∧ itr P (nI g) (19 + 1) = nI x ∧ P 3 x = nI g) := by
      rintro ⟨x, hx, e, -⟩
      rw [hsh] at e
      exact absurd e.symm (nI_ne_m1 (by omega))
    obtain ⟨L, h1, h2⟩ := pk_least (fun L => ¬ (∃ x, x < 20 ∧ itr P (nI g) (L + 1) = nI x ∧ P 3 x = nI g)) ⟨19, hno⟩
    refine ⟨L, ?_, fun j hj => ?_, h1⟩
    · rcases Nat.lt_or_ge L 20 with h | h
      · exact h
      · exact absurd hno (h2 19 (by omega))
    · have := h2 j hj
      rw [Classical.not_not] at this
      obtain ⟨x, hx, e, o⟩ := this
      exact ⟨x, hx, e, o, own_isS w3 w4 hx hg o⟩
  obtain ⟨L, hL20, hL1, hL2⟩ := hL
  have hin : ∀ t, t < 20 → P 3 t = nI g → ∃ j, j < L ∧ itr P (nI g) (j + 1) = nI t := by
    intro t ht o
    obtain ⟨m, c1, c2⟩ := own_chain w5 w7 w6 hg _ t ht (own_isS w3 w4 ht hg o) o (Nat.le_refl _)
    refine ⟨m, ?_, c1⟩
    rcases Nat.lt_or_ge m L with h | h
    · exact h
    · obtain ⟨x, hx, e, o2, -⟩ := c2 L h
      exact absurd ⟨x, hx, e, o2⟩ hL2
  have hc : owc P (nI g) = L := by
    have hex : ∀ j, ∃ x, j < L → x < 20 ∧ itr P (nI g) (j + 1) = nI x ∧ P 3 x = nI g := by
      intro j
      rcases Nat.lt_or_ge j L with h | h
      · obtain ⟨x, a, b, c, -⟩ := hL1 j h
        exact ⟨x, fun _ => ⟨a, b, c⟩⟩
      · exact ⟨0, fun z => by omega⟩
    have hcs := fun j => Classical.choose_spec (hex j)
    refine cnt_img L (fun j => Classical.choose (hex j)) _ (fun i hi => (hcs i hi).1) (fun i j hij hj e => ?_) (fun t ht => ?_)
    · have e' : Classical.choose (hex i) = Classical.choose (hex j) := e
      have a := hcs i (by omega)
      have b := hcs j hj
      rw [e'] at a
      have := ch_inj w6 hg a.1 a.2.1 b.2.1
      omega
    · rw [decide_eq_true_eq]
      constructor
      · intro o
        obtain ⟨j, hj, e⟩ := hin t ht o
        exact ⟨j, hj, nI_lt_inj (by have := (hcs j hj).1; omega) (by omega) ((hcs j hj).2.1.symm.trans e)⟩
      · rintro ⟨i, hi, e⟩
        rw [← e]
        exact (hcs i hi).2.2
  rw [hc]
  exact ⟨hL1, fun x hx e o => hL2 ⟨x, hx, e, o⟩, hin, hL20⟩
