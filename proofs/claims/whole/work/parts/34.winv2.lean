/-! ===== snapshots made and removed, files dropped, forks, files rolled back ===== -/
theorem em_ne {t n : Nat} : t = n ∨ t ≠ n := Decidable.em (t = n)
theorem W_snapN {P Q : PSt} (hI : WInv P) {n f : Nat} (hn : n < 20) (hf : f < 20) (h0 : P 0 n = m1) (hF : isF P f) {kk : Int32} (hk : kk = 2 ∨ kk = 3) (e0 : ∀ t, Q 0 t = if t = n then kk else P 0 t) (e1 : ∀ t, Q 1 t = if t = n then P 9 0 else P 1 t) (e2 : ∀ t, Q 2 t = if t = f then nI n else if t = n then P 2 f else P 2 t) (e3 : ∀ t, Q 3 t = if t = n then nI f else P 3 t) (e4 : ∀ t, t ≠ n → Q 4 t = P 4 t) (er : ∀ a, a = 5 ∨ a = 7 ∨ a = 8 → Q a = P a) (e6 : ∀ t k, t < 20 → k < 12 → Q 6 (t * 12 + k) = if t = n then P 6 (f * 12 + k) else P 6 (t * 12 + k)) (h9 : tm Q = tm P + 1) : WInv Q := by
  obtain ⟨w1, w2, w3, w4, w5, w6, w7, w8, w9, w10, w11, w12, w13, w14⟩ := hI
  have e5 := er 5 (by omega)
  have e7 := er 7 (by omega)
  have e8 := er 8 (by omega)
  have hnP : ¬ hs P n := nhs_m1 h0
  have hfn : f ≠ n := fun z => hnP (Or.inl (z ▸ hF))
  have e0n : Q 0 n = kk := by rw [e0, if_pos rfl]
  have e0o : ∀ t, t ≠ n → Q 0 t = P 0 t := fun t h => by rw [e0, if_neg h]
  have hSn : isS Q n := by unfold isS; rw [e0n]; exact hk
  have eS : ∀ t, t ≠ n → (isS Q t ↔ isS P t) := fun t h => by unfold isS; rw [e0o t h]
  have eF : ∀ t, t ≠ n → (isF Q t ↔ isF P t) := fun t h => by unfold isF; rw [e0o t h]
  have eH : ∀ t, t ≠ n → (hs Q t ↔ hs P t) := fun t h => by unfold hs; rw [eS t h, eF t h]
  have Sn : ∀ t, isS P t → t ≠ n := fun t h w => hnP (Or.inr (w ▸ h))
  have Fn : ∀ t, isF P t → t ≠ n := fun t h w => hnP (Or.inl (w ▸ h))
  have Sf : ∀ t, isS P t → t ≠ f := fun t h w => sF h (w ▸ hF)
  have emd : ∀ t, t ≠ n → md Q t = md P t := fun t h => by unfold md; rw [e1, if_neg h]
  have emn : md Q n = tm P := by unfold md tm; rw [e1, if_pos rfl]
  have ebt : ∀ b, bt1 Q b = bt1 P b := fun b => by unfold bt1; rw [e8]
  have esz : ∀ b, sz1 Q b = sz1 P b := fun b => by unfold sz1; rw [e7]
  have p2f : Q 2 f = nI n := by rw [e2, if_pos rfl]
  have p2n : Q 2 n = P 2 f := by rw [e2, if_neg (Ne.symm hfn), if_pos rfl]
  have p2o : ∀ t, t ≠ f → t ≠ n → Q 2 t = P 2 t := fun t h1 h2 => by rw [e2, if_neg h1, if_neg h2]
  have hlo : ∀ t k b, t < 20 → k < 12 → t ≠ n → (hl Q t k b ↔ hl P t k b) := fun t k b ht hk h => by unfold hl; rw [e6 t k ht hk, if_neg h]
  have hln : ∀ k b, k < 12 → (hl Q n k b ↔ hl P f k b) := fun k b hk => by unfold hl; rw [e6 n k hn hk, if_pos rfl]
  -- every holder in Q answers a holder in P
  have back : ∀ t k b, t < 20 → k < 12 → hl Q t k b → ∃ t0, t0 < 20 ∧ hl P t0 k b := by
    intro t k b ht hk h
    rcases em_ne (t := t) (n := n) with w | w
    · subst w; exact ⟨f, hf, (hln k b hk).mp h⟩
    · exact ⟨t, ht, (hlo t k b ht hk w).mp h⟩
  have bbt : ∀ k b, k < 12 → b < 96 → hl P f k b → bt1 P b ≤ tm P := by
    intro k b hk hb h
    have h1 := hl_sz w8 hf hk hb h
    exact ((w9 b hb).2.2 (by omega)).2
  have topn : ∀ b, top Q n b → top P f b := by
    intro b h u hu e
    have := h u hu (by rw [p2n]; exact e)
    rw [emd u (Sn u (pv_isS w6 hf hu e).1), ebt] at this
    exact this
  have topo : ∀ t b, t < 20 → t ≠ n → t ≠ f → top Q t b → top P t b := by
    intro t b ht h1 h2 h u hu e
    have := h u hu (by rw [p2o t h2 h1]; exact e)
    rw [emd u (Sn u (pv_isS w6 ht hu e).1), ebt] at this
    exact this
  have topf : ∀ k b, k < 12 → b < 96 → hl P f k b → ¬ top Q f b := by
    intro k b hk hb h h1
    have h2 := h1 n hn p2f
    rw [emn, ebt] at h2
    have := bbt k b hk hb h
    omega
  refine ⟨?_, ?_, ?_, ?_, ?_, ?_, ?_, ?_, ?_, ?_, ?_, ?_, ?_, by omega⟩
  · intro t ht
    rcases em_ne (t := t) (n := n) with w | w
    · subst w; exact Or.inr (Or.inl (Or.inr hSn))
    · rw [e0o t w, eH t w]; exact w1 t ht
  · intro t ht h
    have w : t ≠ n := fun w => by rw [w, e0n] at h; rcases hk with z | z <;> rw [z] at h <;> exact absurd h (by decide)
    rw [e0o t w] at h
    rw [e4 t w, e5]
    exact w2 t ht h
  · intro t ht h
    have w : t ≠ n := fun w => h (by rw [w]; exact Or.inr hSn)
    have h1 : ¬ hs P t := fun z => h ((eH t w).mpr z)
    have h2 : t ≠ f := fun z => h1 (z ▸ Or.inl hF)
    have h3 := w3 t ht h1
    rw [p2o t h2 w, e3, if_neg w]
    exact ⟨h3.1, h3.2.1, fun k hk => by rw [e6 t k ht hk, if_neg w]; exact h3.2.2 k hk⟩
  · intro t ht h
    have w : t ≠ n := fun w => sF hSn (w ▸ h)
    rw [e3, if_neg w, e0o t w, e5]
    exact w4 t ht ((eF t w).mp h)
  · intro t ht h
    rcases em_ne (t := t) (n := n) with w | w
    · subst w
      exact ⟨f, hf, by rw [e3, if_pos rfl], (eF f hfn).mpr hF, Or.inl p2f⟩
    · obtain ⟨g, hg, a1, a2, a3⟩ := w5 t ht ((eS t w).mp h)
      refine ⟨g, hg, by rw [e3, if_neg w]; exact a1, (eF g (Fn g a2)).mpr a2, ?_⟩
      rcases a3 with a3 | ⟨u, hu, b1, b2, b3⟩
      · rcases em_ne (t := g) (n := f) with z | z
        · subst z
          exact Or.inr ⟨n, hn, hSn, by rw [e3, if_pos rfl], by rw [p2n]; exact a3⟩
        · exact Or.inl (by rw [p2o g z (Fn g a2)]; exact a3)
      · exact Or.inr ⟨u, hu, (eS u (Sn u b1)).mpr b1, by rw [e3, if_neg (Sn u b1)]; exact b2, by rw [p2o u (Sf u b1) (Sn u b1)]; exact b3⟩
  · intro t ht
    rcases em_ne (t := t) (n := f) with z | z
    · subst z
      exact Or.inr ⟨n, hn, p2f, hSn, fun h => absurd ((eF t hfn).mpr hF) (sF h)⟩
    · rcases em_ne (t := t) (n := n) with w | w
      · subst w
        rw [p2n]
        rcases w6 f hf with h | ⟨u, hu, a1, a2, a3⟩
        · exact Or.inl h
        · refine Or.inr ⟨u, hu, a1, (eS u (Sn u a2)).mpr a2, fun _ => ?_⟩
          rw [emd u (Sn u a2), emn]
          exact (w7 u hu a2).2
      · rw [p2o t z w]
        rcases w6 t ht with h | ⟨u, hu, a1, a2, a3⟩
        · exact Or.inl h
        · refine Or.inr ⟨u, hu, a1, (eS u (Sn u a2)).mpr a2, fun h => ?_⟩
          rw [emd u (Sn u a2), emd t w]
          exact a3 ((eS t w).mp h)
  · intro t ht h
    rcases em_ne (t := t) (n := n) with w | w
    · subst w; rw [emn, h9]; omega
    · have := w7 t ht ((eS t w).mp h)
      rw [emd t w, h9]; omega
  · intro t k ht hk
    rcases em_ne (t := t) (n := n) with w | w
    · subst w
      rcases w8 f k hf hk with h | ⟨b, hb, h1, h2⟩
      · exact Or.inl (by rw [e6 t k ht hk, if_pos rfl]; exact h)
      · exact Or.inr ⟨b, hb, (hln k b hk).mpr h1, by rw [esz]; exact h2⟩
    · rcases w8 t k ht hk with h | ⟨b, hb, h1, h2⟩
      · exact Or.inl (by rw [e6 t k ht hk, if_neg w]; exact h)
      · exact Or.inr ⟨b, hb, (hlo t k b ht hk w).mpr h1, by rw [esz]; exact h2⟩
  · intro b hb
    have := w9 b hb
    rw [esz, ebt, h9]
    exact ⟨this.1, this.2.1, fun z => ⟨(this.2.2 z).1, by have := (this.2.2 z).2; omega⟩⟩
  · intro t t' k1 k2 b a1 a2 a3 a4 a5 h1 h2
    obtain ⟨x, hx, g1⟩ := back t k1 b a1 a3 h1
    obtain ⟨y, hy, g2⟩ := back t' k2 b a2 a4 h2
    exact w10 x y k1 k2 b hx hy a3 a4 a5 g1 g2
  · intro t k b a1 a2 a3 h1 h2
    rw [ebt]
    rcases em_ne (t := t) (n := n) with w | w
    · subst w
      rw [emn]
      exact bbt k b a2 a3 ((hln k b a2).mp h2)
    · rw [emd t w]
      exact w11 t k b a1 a2 a3 ((eS t w).mp h1) ((hlo t k b a1 a2 w).mp h2)
  · intro t u k b a1 a2 a3 a4 h1 h2 h3
    rw [ebt] at h3
    rcases em_ne (t := t) (n := f) with z | z
    · subst z
      rw [p2f] at h1
      have := nI_lt_inj (by omega) (by omega) h1
      subst this
      exact (hln k b a3).mpr ((hlo t k b a1 a3 hfn).mp h2)
    · rcases em_ne (t := t) (n := n) with w | w
      · subst w
        rw [p2n] at h1
        have hu := (pv_isS w6 hf a2 h1).1
        rw [emd u (Sn u hu)] at h3
        exact (hlo u k b a2 a3 (Sn u hu)).mpr (w12 f u k b hf a2 a3 a4 h1 ((hln k b a3).mp h2) h3)
      · rw [p2o t z w] at h1
        have hu := (pv_isS w6 a1 a2 h1).1
        rw [emd u (Sn u hu)] at h3
        exact (hlo u k b a2 a3 (Sn u hu)).mpr (w12 t u k b a1 a2 a3 a4 h1 ((hlo t k b a1 a3 w).mp h2) h3)
  · intro t t' k b a1 a2 a3 a4 h1 h2 h3 h4
    -- one of them is n, or neither
    have key : ∀ x, x < 20 → x ≠ n → hl Q x k b → top Q x b → hl P x k b ∧ top P x b ∧ x ≠ f := by
      intro x hx w g1 g2
      have g3 := (hlo x k b hx a3 w).mp g1
      have z : x ≠ f := fun z => topf k b a3 a4 (z ▸ g3) (z ▸ g2)
      exact ⟨g3, topo x b hx w z g2, z⟩
    rcases em_ne (t := t) (n := n) with w | w
    · rcases em_ne (t := t') (n := n) with w' | w'
      · rw [w, w']
      · subst w
        obtain ⟨g1, g2, g3⟩ := key t' a2 w' h2 h4
        exact absurd (w13 t' f k b a2 hf a3 a4 g1 ((hln k b a3).mp h1) g2 (topn b h3)) g3
    · obtain ⟨g1, g2, g3⟩ := key t a1 w h1 h3
      rcases em_ne (t := t') (n := n) with w' | w'
      · subst w'
        exact absurd (w13 t f k b a1 hf a3 a4 g1 ((hln k b a3).mp h2) g2 (topn b h4)) g3
      · obtain ⟨q1, q2, q3⟩ := key t' a2 w' h2 h4
        exact w13 t t' k b a1 a2 a3 a4 g1 q1 g2 q2
/-- a snapshot S with one follower N is removed -/
theorem W_rmS {P Q : PSt} (hI : WInv P) {S N : Nat} (hS : S < 20) (hN : N < 20) (hSS : isS P S) (hp : P 2 N = nI S) (hu : ∀ j, j < 20 → P 2 j = nI S → j = N) (e0 : ∀ t, Q 0 t = if t = S then m1 else P 0 t) (e1 : ∀ t, t ≠ S → Q 1 t = P 1 t) (e2 : ∀ t, Q 2 t = if t = S then m1 else if t = N then P 2 S else P 2 t) (e3 : ∀ t, Q 3 t = if t = S then m1 else P 3 t) (e4 : ∀ t, Q 4 t = if t = S then 0 else P 4 t) (e5 : ∀ t, Q 5 t = if t = S then m1 else P 5 t) (er : ∀ a, a = 7 ∨ a = 8 ∨ a = 9 → Q a = P a) (e6 : ∀ t k, t < 20 → k < 12 → Q 6 (t * 12 + k) = if t = S then m1 else P 6 (t * 12 + k)) : WInv Q := by
  obtain ⟨w1, w2, w3, w4, w5, w6, w7, w8, w9, w10, w11, w12, w13, w14⟩ := hI
  have e7 := er 7 (by omega)
  have e8 := er 8 (by omega)
  have e9 := er 9 (by omega)
  have hNS : N ≠ S := by
    intro z
    have h := pv_isS w6 hN hS hp
    rw [z] at h
    have := h.2 hSS
    omega
  have e0S : Q 0 S = m1 := by rw [e0, if_pos rfl]
  have e0o : ∀ t, t ≠ S → Q 0 t = P 0 t := fun t h => by rw [e0, if_neg h]
  have hSn : ¬ hs Q S := nhs_m1 e0S
  have eS : ∀ t, t ≠ S → (isS Q t ↔ isS P t) := fun t h => by unfold isS; rw [e0o t h]
  have eF : ∀ t, t ≠ S → (isF Q t ↔ isF P t) := fun t h => by unfold isF; rw [e0o t h]
  have eH : ∀ t, t ≠ S → (hs Q t ↔ hs P t) := fun t h => by unfold hs; rw [eS t h, eF t h]
  have QS : ∀ t, isS Q t → t ≠ S := fun t h w => hSn (Or.inr (w ▸ h))
  have QF : ∀ t, isF Q t → t ≠ S := fun t h w => hSn (Or.inl (w ▸ h))
  have PF : ∀ t, isF P t → t ≠ S := fun t h w => sF hSS (w ▸ h)
  have emd : ∀ t, t ≠ S → md Q t = md P t := fun t h => by unfold md; rw [e1 t h]
  have ebt : ∀ b, bt1 Q b = bt1 P b := fun b => by unfold bt1; rw [e8]
  have esz : ∀ b, sz1 Q b = sz1 P b := fun b => by unfold sz1; rw [e7]
  have etm : tm Q = tm P := by unfold tm; rw [e9]
  have p2N : Q 2 N = P 2 S := by rw [e2, if_neg hNS, if_pos rfl]
  have p2o : ∀ t, t ≠ S → t ≠ N → Q 2 t = P 2 t := fun t h1 h2 => by rw [e2, if_neg h1, if_neg h2]
  have hlo : ∀ t k b, t < 20 → k < 12 → t ≠ S → (hl Q t k b ↔ hl P t k b) := fun t k b ht hk h => by unfold hl; rw [e6 t k ht hk, if_neg h]
  have hlS : ∀ k b, k < 12 → b < 96 → ¬ hl Q S k b := fun k b hk hb h => by
    unfold hl at h
    rw [e6 S k hS hk, if_pos rfl] at h
    exact absurd h.symm (nI_ne_m1 (by omega))
  have hlP : ∀ t k b, t < 20 → k < 12 → b < 96 → hl Q t k b → t ≠ S ∧ hl P t k b := fun t k b ht hk hb h => by
    have w : t ≠ S := fun w => hlS k b hk hb (w ▸ h)
    exact ⟨w, (hlo t k b ht hk w).mp h⟩
  -- the one before S
  have pS : ∀ v, v < 20 → P 2 S = nI v → isS P v ∧ v ≠ S ∧ md P v < md P S := by
    intro v hv e
    have h := pv_isS w6 hS hv e
    have h2 := h.2 hSS
    exact ⟨h.1, fun z => by rw [z] at h2; omega, h2⟩
  have notS : ∀ t u, t < 20 → u < 20 → t ≠ N → P 2 t = nI u → u ≠ S := fun t u ht _ h e z => h (hu t ht (z ▸ e))
  have topo : ∀ t b, t < 20 → t ≠ S → t ≠ N → top Q t b → top P t b := by
    intro t b ht h1 h2 h u hu2 e
    have := h u hu2 (by rw [p2o t h1 h2]; exact e)
    rw [emd u (notS t u ht hu2 h2 e), ebt] at this
    exact this
  have topN : ∀ b, top Q N b → top P S b := by
    intro b h u hu2 e
    have := h u hu2 (by rw [p2N]; exact e)
    rw [emd u (pS u hu2 e).2.1, ebt] at this
    exact this
  refine ⟨?_, ?_, ?_, ?_, ?_, ?_, ?_, ?_, ?_, ?_, ?_, ?_, ?_, by omega⟩
  · intro t ht
    rcases em_ne (t := t) (n := S) with w | w
    · subst w; exact Or.inl e0S
    · rw [e0o t w, eH t w]; exact w1 t ht
  · intro t ht h
    rw [e4, e5]
    rcases em_ne (t := t) (n := S) with w | w
    · rw [if_pos w, if_pos w]; exact ⟨rfl, rfl⟩
    · rw [if_neg w, if_neg w]; rw [e0o t w] at h; exact w2 t ht h
  · intro t ht h
    rcases em_ne (t := t) (n := S) with w | w
    · subst w
      exact ⟨by rw [e2, if_pos rfl], by rw [e3, if_pos rfl], fun k hk => by rw [e6 t k ht hk, if_pos rfl]⟩
    · have h1 : ¬ hs P t := fun z => h ((eH t w).mpr z)
      have h3 := w3 t ht h1
      have h2 : t ≠ N := fun z => h1 (z ▸ pv_hs w3 hN hS hp)
      rw [p2o t w h2, e3, if_neg w]
      exact ⟨h3.1, h3.2.1, fun k hk => by rw [e6 t k ht hk, if_neg w]; exact h3.2.2 k hk⟩
  · intro t ht h
    have w := QF t h
    rw [e3, if_neg w, e0o t w, e5, if_neg w]
    exact w4 t ht ((eF t w).mp h)
  · intro t ht h
    have w := QS t h
    obtain ⟨g, hg, a1, a2, a3⟩ := w5 t ht ((eS t w).mp h)
    refine ⟨g, hg, by rw [e3, if_neg w]; exact a1, (eF g (PF g a2)).mpr a2, ?_⟩
    rcases a3 with a3 | ⟨x, hx, b1, b2, b3⟩
    · have z : g ≠ N := fun z => by
        rw [z, hp] at a3
        exact w (nI_lt_inj (by omega) (by omega) a3).symm
      exact Or.inl (by rw [p2o g (PF g a2) z]; exact a3)
    · have z : x ≠ N := fun z => by
        rw [z, hp] at b3
        exact w (nI_lt_inj (by omega) (by omega) b3).symm
      rcases em_ne (t := x) (n := S) with y | y
      · subst y
        obtain ⟨g2, hg2, c1, c2, c3⟩ := w5 x hx b1
        have : g2 = g := nI_lt_inj (by omega) (by omega) (c1.symm.trans b2)
        subst this
        rcases c3 with c3 | ⟨y, hy, d1, d2, d3⟩
        · have := hu g2 hg2 c3
          subst this
          exact Or.inl (by rw [p2N]; exact b3)
        · have := hu y hy d3
          subst this
          exact Or.inr ⟨y, hy, (eS y hNS).mpr d1, by rw [e3, if_neg hNS]; exact d2, by rw [p2N]; exact b3⟩
      · exact Or.inr ⟨x, hx, (eS x y).mpr b1, by rw [e3, if_neg y]; exact b2, by rw [p2o x y z]; exact b3⟩
  · intro t ht
    rcases em_ne (t := t) (n := S) with w | w
    · exact Or.inl (by rw [e2, if_pos w])
    · rcases em_ne (t := t) (n := N) with z | z
      · subst z
        rw [p2N]
        rcases w6 S hS with h | ⟨v, hv, a1, a2, a3⟩
        · exact Or.inl h
        · obtain ⟨b1, b2, b3⟩ := pS v hv a1
          refine Or.inr ⟨v, hv, a1, (eS v b2).mpr b1, fun h => ?_⟩
          rw [emd v b2, emd t w]
          have := (pv_isS w6 ht hS hp).2 ((eS t w).mp h)
          omega
      · rw [p2o t w z]
        rcases w6 t ht with h | ⟨v, hv, a1, a2, a3⟩
        · exact Or.inl h
        · have y := notS t v ht hv z a1
          refine Or.inr ⟨v, hv, a1, (eS v y).mpr a2, fun h => ?_⟩
          rw [emd v y, emd t w]
          exact a3 ((eS t w).mp h)
  · intro t ht h
    have w := QS t h
    rw [emd t w, etm]
    exact w7 t ht ((eS t w).mp h)
  · intro t k ht hk
    rcases em_ne (t := t) (n := S) with w | w
    · exact Or.inl (by rw [e6 t k ht hk, if_pos w])
    · rcases w8 t k ht hk with h | ⟨b, hb, h1, h2⟩
      · exact Or.inl (by rw [e6 t k ht hk, if_neg w]; exact h)
      · exact Or.inr ⟨b, hb, (hlo t k b ht hk w).mpr h1, by rw [esz]; exact h2⟩
  · exact tr_size e7 e8 e9 w9
  · intro t t' k1 k2 b a1 a2 a3 a4 a5 h1 h2
    exact w10 t t' k1 k2 b a1 a2 a3 a4 a5 (hlP t k1 b a1 a3 a5 h1).2 (hlP t' k2 b a2 a4 a5 h2).2
  · intro t k b a1 a2 a3 h1 h2
    have w := QS t h1
    rw [ebt, emd t w]
    exact w11 t k b a1 a2 a3 ((eS t w).mp h1) (hlP t k b a1 a2 a3 h2).2
  · intro t u k b a1 a2 a3 a4 h1 h2 h3
    obtain ⟨w, g2⟩ := hlP t k b a1 a3 a4 h2
    rw [ebt] at h3
    rcases em_ne (t := t) (n := N) with z | z
    · subst z
      rw [p2N] at h1
      obtain ⟨b1, b2, b3⟩ := pS u a2 h1
      rw [emd u b2] at h3
      have g3 := w12 t S k b a1 hS a3 a4 hp g2 (by omega)
      exact (hlo u k b a2 a3 b2).mpr (w12 S u k b hS a2 a3 a4 h1 g3 h3)
    · rw [p2o t w z] at h1
      have y := notS t u a1 a2 z h1
      rw [emd u y] at h3
      exact (hlo u k b a2 a3 y).mpr (w12 t u k b a1 a2 a3 a4 h1 g2 h3)
  · intro t t' k b a1 a2 a3 a4 h1 h2 h3 h4
    obtain ⟨w, g1⟩ := hlP t k b a1 a3 a4 h1
    obtain ⟨w', g2⟩ := hlP t' k b a2 a3 a4 h2
    -- N is first in Q: then S or N was first in P
    have key : hl P N k b → top Q N b → ∀ x, x < 20 → x ≠ S → x ≠ N → hl P x k b → top P x b → False := by
      intro g3 g4 x hx y1 y2 g5 g6
      have g7 := topN b g4
      rcases Classical.em (bt1 P b ≤ md P S) with z | z
      · have g8 := w12 N S k b hN hS a3 a4 hp g3 z
        exact y1 (w13 x S k b hx hS a3 a4 g5 g8 g6 g7)
      · have g8 : top P N b := by
          intro u hu2 e
          have := nI_lt_inj (by omega) (by omega) (e.symm.trans hp)
          subst this
          omega
        exact y2 (w13 x N k b hx hN a3 a4 g5 g3 g6 g8)
    rcases em_ne (t := t) (n := N) with z | z
    · rcases em_ne (t := t') (n := N) with z' | z'
      · rw [z, z']
      · subst z
        exact (key g1 h3 t' a2 w' z' g2 (topo t' b a2 w' z' h4)).elim
    · rcases em_ne (t := t') (n := N) with z' | z'
      · subst z'
        exact (key g2 h4 t a1 w z g1 (topo t b a1 w z h3)).elim
      · exact w13 t t' k b a1 a2 a3 a4 g1 g2 (topo t b a1 w z h3) (topo t' b a2 w' z' h4)
/-- files without own snapshots, or a bookmark, go -/
theorem W_drop {P Q : PSt} (hI : WInv P) {X : Nat} (hX : X < 20) (hXS : ¬ isS P X) (hno : ∀ t, t < 20 → P 3 t ≠ nI X) (e0 : ∀ t, Q 0 t = if t = X then m1 else P 0 t) (e1 : ∀ t, t ≠ X → Q 1 t = P 1 t) (e2 : ∀ t, Q 2 t = if t = X then m1 else P 2 t) (e3 : ∀ t, Q 3 t = if t = X then m1 else P 3 t) (e4 : ∀ t, Q 4 t = if t = X then 0 else P 4 t) (e5 : ∀ t, Q 5 t = if t = X then m1 else P 5 t) (er : ∀ a, a = 7 ∨ a = 8 ∨ a = 9 → Q a = P a) (e6 : ∀ t k, t < 20 → k < 12 → Q 6 (t * 12 + k) = if t = X then m1 else P 6 (t * 12 + k)) : WInv Q := by
  obtain ⟨w1, w2, w3, w4, w5, w6, w7, w8, w9, w10, w11, w12, w13, w14⟩ := hI
  have e7 := er 7 (by omega)
  have e8 := er 8 (by omega)
  have e9 := er 9 (by omega)
  have e0X : Q 0 X = m1 := by rw [e0, if_pos rfl]
  have e0o : ∀ t, t ≠ X → Q 0 t = P 0 t := fun t h => by rw [e0, if_neg h]
  have hXn : ¬ hs Q X := nhs_m1 e0X
  have eS : ∀ t, isS Q t ↔ isS P t := fun t => by
    rcases em_ne (t := t) (n := X) with w | w
    · subst w; exact ⟨fun h => absurd (Or.inr h) hXn, fun h => absurd h hXS⟩
    · unfold isS; rw [e0o t w]
  have eF : ∀ t, t ≠ X → (isF Q t ↔ isF P t) := fun t h => by unfold isF; rw [e0o t h]
  have eH : ∀ t, t ≠ X → (hs Q t ↔ hs P t) := fun t h => by unfold hs; rw [eS t, eF t h]
  have SX : ∀ t, isS P t → t ≠ X := fun t h w => hXS (w ▸ h)
  have emd : ∀ t, t ≠ X → md Q t = md P t := fun t h => by unfold md; rw [e1 t h]
  have ebt : ∀ b, bt1 Q b = bt1 P b := fun b => by unfold bt1; rw [e8]
  have esz : ∀ b, sz1 Q b = sz1 P b := fun b => by unfold sz1; rw [e7]
  have etm : tm Q = tm P := by unfold tm; rw [e9]
  have p2o : ∀ t, t ≠ X → Q 2 t = P 2 t := fun t h1 => by rw [e2, if_neg h1]
  have hlo : ∀ t k b, t < 20 → k < 12 → t ≠ X → (hl Q t k b ↔ hl P t k b) := fun t k b ht hk h => by unfold hl; rw [e6 t k ht hk, if_neg h]
  have hlP : ∀ t k b, t < 20 → k < 12 → b < 96 → hl Q t k b → t ≠ X ∧ hl P t k b := fun t k b ht hk hb h => by
    have w : t ≠ X := fun w => by
      unfold hl at h
      rw [e6 t k ht hk, if_pos w] at h
      exact absurd h.symm (nI_ne_m1 (by omega))
    exact ⟨w, (hlo t k b ht hk w).mp h⟩
  have uX : ∀ t u, t < 20 → u < 20 → P 2 t = nI u → u ≠ X := fun t u ht hu e => SX u (pv_isS w6 ht hu e).1
  have topo : ∀ t b, t < 20 → t ≠ X → top Q t b → top P t b := by
    intro t b ht h1 h u hu e
    have := h u hu (by rw [p2o t h1]; exact e)
    rw [emd u (uX t u ht hu e), ebt] at this
    exact this
  refine ⟨?_, ?_, ?_, ?_, ?_, ?_, ?_, ?_, tr_size e7 e8 e9 w9, ?_, ?_, ?_, ?_, by omega⟩
  · intro t ht
    rcases em_ne (t := t) (n := X) with w | w
    · subst w; exact Or.inl e0X
    · rw [e0o t w, eH t w]; exact w1 t ht
  · intro t ht h
    rw [e4, e5]
    rcases em_ne (t := t) (n := X) with w | w
    · rw [if_pos w, if_pos w]; exact ⟨rfl, rfl⟩
    · rw [if_neg w, if_neg w]; rw [e0o t w] at h; exact w2 t ht h
  · intro t ht h
    rcases em_ne (t := t) (n := X) with w | w
    · subst w
      exact ⟨by rw [e2, if_pos rfl], by rw [e3, if_pos rfl], fun k hk => by rw [e6 t k ht hk, if_pos rfl]⟩
    · have h3 := w3 t ht (fun z => h ((eH t w).mpr z))
      rw [p2o t w, e3, if_neg w]
      exact ⟨h3.1, h3.2.1, fun k hk => by rw [e6 t k ht hk, if_neg w]; exact h3.2.2 k hk⟩
  · intro t ht h
    have w : t ≠ X := fun w => hXn (Or.inl (w ▸ h))
    rw [e3, if_neg w, e0o t w, e5, if_neg w]
    exact w4 t ht ((eF t w).mp h)
  · intro t ht h
    have h1 := (eS t).mp h
    have w := SX t h1
    obtain ⟨g, hg, a1, a2, a3⟩ := w5 t ht h1
    have z : g ≠ X := fun z => hno t ht (z ▸ a1)
    refine ⟨g, hg, by rw [e3, if_neg w]; exact a1, (eF g z).mpr a2, ?_⟩
    rcases a3 with a3 | ⟨x, hx, b1, b2, b3⟩
    · exact Or.inl (by rw [p2o g z]; exact a3)
    · exact Or.inr ⟨x, hx, (eS x).mpr b1, by rw [e3, if_neg (SX x b1)]; exact b2, by rw [p2o x (SX x b1)]; exact b3⟩
  · intro t ht
    rcases em_ne (t := t) (n := X) with w | w
    · exact Or.inl (by rw [e2, if_pos w])
    · rw [p2o t w]
      rcases w6 t ht with h | ⟨v, hv, a1, a2, a3⟩
      · exact Or.inl h
      · refine Or.inr ⟨v, hv, a1, (eS v).mpr a2, fun h => ?_⟩
        rw [emd v (SX v a2), emd t w]
        exact a3 ((eS t).mp h)
  · intro t ht h
    have h1 := (eS t).mp h
    rw [emd t (SX t h1), etm]
    exact w7 t ht h1
  · intro t k ht hk
    rcases em_ne (t := t) (n := X) with w | w
    · exact Or.inl (by rw [e6 t k ht hk, if_pos w])
    · rcases w8 t k ht hk with h | ⟨b, hb, h1, h2⟩
      · exact Or.inl (by rw [e6 t k ht hk, if_neg w]; exact h)
      · exact Or.inr ⟨b, hb, (hlo t k b ht hk w).mpr h1, by rw [esz]; exact h2⟩
  · intro t t' k1 k2 b a1 a2 a3 a4 a5 h1 h2
    exact w10 t t' k1 k2 b a1 a2 a3 a4 a5 (hlP t k1 b a1 a3 a5 h1).2 (hlP t' k2 b a2 a4 a5 h2).2
  · intro t k b a1 a2 a3 h1 h2
    have g1 := (eS t).mp h1
    rw [ebt, emd t (SX t g1)]
    exact w11 t k b a1 a2 a3 g1 (hlP t k b a1 a2 a3 h2).2
  · intro t u k b a1 a2 a3 a4 h1 h2 h3
    obtain ⟨w, g2⟩ := hlP t k b a1 a3 a4 h2
    rw [p2o t w] at h1
    have y := uX t u a1 a2 h1
    rw [ebt, emd u y] at h3
    exact (hlo u k b a2 a3 y).mpr (w12 t u k b a1 a2 a3 a4 h1 g2 h3)
  · intro t t' k b a1 a2 a3 a4 h1 h2 h3 h4
    obtain ⟨w, g1⟩ := hlP t k b a1 a3 a4 h1
    obtain ⟨w', g2⟩ := hlP t' k b a2 a3 a4 h2
    exact w13 t t' k b a1 a2 a3 a4 g1 g2 (topo t b a1 w h3) (topo t' b a2 w' h4)
/-- files f have the slots of their snapshot u: as new ones (a fork), or rolled back -/
theorem W_like {P Q : PSt} (hI : WInv P) {f u : Nat} (hf : f < 20) (hu : u < 20) (hF : isF P f) (hS : isS P u) (hp : P 2 f = nI u) (er : ∀ a, a ≠ 6 → Q a = P a) (e6 : ∀ t k, t < 20 → k < 12 → Q 6 (t * 12 + k) = if t = f then P 6 (u * 12 + k) else P 6 (t * 12 + k)) : WInv Q := by
  obtain ⟨w1, w2, w3, w4, w5, w6, w7, w8, w9, w10, w11, w12, w13, w14⟩ := hI
  have e0 := er 0 (by decide)
  have e1 := er 1 (by decide)
  have e2 := er 2 (by decide)
  have e3 := er 3 (by decide)
  have e4 := er 4 (by decide)
  have e5 := er 5 (by decide)
  have e7 := er 7 (by decide)
  have e8 := er 8 (by decide)
  have e9 := er 9 (by decide)
  have eS : ∀ t, isS Q t ↔ isS P t := fun t => by unfold isS; rw [e0]
  have emd : ∀ t, md Q t = md P t := fun t => by unfold md; rw [e1]
  have ebt : ∀ b, bt1 Q b = bt1 P b := fun t => by unfold bt1; rw [e8]
  have esz : ∀ b, sz1 Q b = sz1 P b := fun b => by unfold sz1; rw [e7]
  have Sf : ∀ t, isS P t → t ≠ f := fun t h w => sF h (w ▸ hF)
  have hlo : ∀ t k b, t < 20 → k < 12 → t ≠ f → (hl Q t k b ↔ hl P t k b) := fun t k b ht hk h => by unfold hl; rw [e6 t k ht hk, if_neg h]
  have hlf : ∀ k b, k < 12 → (hl Q f k b ↔ hl P u k b) := fun k b hk => by unfold hl; rw [e6 f k hf hk, if_pos rfl]
  have back : ∀ t k b, t < 20 → k < 12 → hl Q t k b → ∃ t0, t0 < 20 ∧ hl P t0 k b := by
    intro t k b ht hk h
    rcases em_ne (t := t) (n := f) with w | w
    · subst w; exact ⟨u, hu, (hlf k b hk).mp h⟩
    · exact ⟨t, ht, (hlo t k b ht hk w).mp h⟩
  have htp : ∀ t b, top Q t b ↔ top P t b := by
    intro t b
    unfold top
    simp only [e2, emd, ebt]
  have topf : ∀ k b, k < 12 → b < 96 → hl P u k b → ¬ top P f b := by
    intro k b hk hb h h1
    have h2 := h1 u hu hp
    have := w11 u k b hu hk hb hS h
    omega
  refine ⟨tr_kind e0 w1, tr_none e0 e4 e5 w2, ?_, tr_files e0 e3 e5 w4, tr_snap e0 e2 e3 w5, tr_prev e0 e1 e2 w6, tr_made e0 e1 e9 w7, ?_, tr_size e7 e8 e9 w9, ?_, ?_, ?_, ?_, tr_tm e9 w14⟩
  · intro t ht2 h
    have h0 : ¬ hs P t := fun z => h (by unfold hs isF isS at *; rw [e0]; exact z)
    have h1 := w3 t ht2 h0
    rw [e2, e3]
    refine ⟨h1.1, h1.2.1, fun k' hk' => ?_⟩
    rw [e6 t k' ht2 hk', if_neg (fun z : t = f => h0 (z ▸ Or.inl hF))]
    exact h1.2.2 k' hk'
  · intro t k ht hk
    rcases em_ne (t := t) (n := f) with w | w
    · subst w
      rcases w8 u k hu hk with h | ⟨b, hb, h1, h2⟩
      · exact Or.inl (by rw [e6 t k ht hk, if_pos rfl]; exact h)
      · exact Or.inr ⟨b, hb, (hlf k b hk).mpr h1, by rw [esz]; exact h2⟩
    · rcases w8 t k ht hk with h | ⟨b, hb, h1, h2⟩
      · exact Or.inl (by rw [e6 t k ht hk, if_neg w]; exact h)
      · exact Or.inr ⟨b, hb, (hlo t k b ht hk w).mpr h1, by rw [esz]; exact h2⟩
  · intro t t' k1 k2 b a1 a2 a3 a4 a5 h1 h2
    obtain ⟨x, hx, g1⟩ := back t k1 b a1 a3 h1
    obtain ⟨y, hy, g2⟩ := back t' k2 b a2 a4 h2
    exact w10 x y k1 k2 b hx hy a3 a4 a5 g1 g2
  · intro t k1 b a1 a2 a3 h1 h2
    have g1 := (eS t).mp h1
    rw [ebt, emd]
    exact w11 t k1 b a1 a2 a3 g1 ((hlo t k1 b a1 a2 (Sf t g1)).mp h2)
  · intro t v k b a1 a2 a3 a4 h1 h2 h3
    rw [e2] at h1
    rw [ebt, emd] at h3
    have hv := (pv_isS w6 a1 a2 h1).1
    rw [hlo v k b a2 a3 (Sf v hv)]
    rcases em_ne (t := t) (n := f) with w | w
    · subst w
      have : v = u := nI_lt_inj (by omega) (by omega) (h1.symm.trans hp)
      subst this
      exact (hlf k b a3).mp h2
    · exact w12 t v k b a1 a2 a3 a4 h1 ((hlo t k b a1 a3 w).mp h2) h3
  · intro t t' k b a1 a2 a3 a4 h1 h2 h3 h4
    have key : ∀ x, x < 20 → hl Q x k b → top Q x b → hl P x k b ∧ top P x b := by
      intro x hx g1 g2
      rcases em_ne (t := x) (n := f) with w | w
      · subst w
        exact absurd ((htp x b).mp g2) (topf k b a3 a4 ((hlf k b a3).mp g1))
      · exact ⟨(hlo x k b hx a3 w).mp g1, (htp x b).mp g2⟩
    obtain ⟨g1, g2⟩ := key t a1 h1 h3
    obtain ⟨g3, g4⟩ := key t' a2 h2 h4
    exact w13 t t' k b a1 a2 a3 a4 g1 g3 g2 g4
/-- new files n that follow the snapshot u, still empty -/
theorem W_newp {P Q : PSt} (hI : WInv P) {n u : Nat} (hn : n < 20) (hu : u < 20) (h0 : P 0 n = 0) (hF1 : P 2 n = m1) (he : ∀ k, k < 12 → P 6 (n * 12 + k) = m1) (hS : isS P u) (e2 : ∀ t, Q 2 t = if t = n then nI u else P 2 t) (er : ∀ a, a ≠ 2 → Q a = P a) : WInv Q := by
  obtain ⟨w1, w2, w3, w4, w5, w6, w7, w8, w9, w10, w11, w12, w13, w14⟩ := hI
  have e0 := er 0 (by decide)
  have e1 := er 1 (by decide)
  have e3 := er 3 (by decide)
  have e4 := er 4 (by decide)
  have e5 := er 5 (by decide)
  have e6 := er 6 (by decide)
  have e7 := er 7 (by decide)
  have e8 := er 8 (by decide)
  have e9 := er 9 (by decide)
  have hF : isF P n := Or.inl h0
  have eS : ∀ t, isS Q t ↔ isS P t := fun t => by unfold isS; rw [e0]
  have emd : ∀ t, md Q t = md P t := fun t => by unfold md; rw [e1]
  have ebt : ∀ b, bt1 Q b = bt1 P b := fun t => by unfold bt1; rw [e8]
  have ehl : ∀ t k b, hl Q t k b ↔ hl P t k b := fun t k b => by unfold hl; rw [e6]
  have hne : ∀ k b, k < 12 → b < 96 → ¬ hl P n k b := fun k b hk hb h => by
    unfold hl at h
    rw [he k hk] at h
    exact absurd h.symm (nI_ne_m1 (by omega))
  have p2o : ∀ t, t ≠ n → Q 2 t = P 2 t := fun t h => by rw [e2, if_neg h]
  have p2n : Q 2 n = nI u := by rw [e2, if_pos rfl]
  have htp : ∀ t b, t ≠ n → (top Q t b ↔ top P t b) := by
    intro t b h
    unfold top
    simp only [p2o t h, emd, ebt]
  refine ⟨tr_kind e0 w1, tr_none e0 e4 e5 w2, ?_, tr_files e0 e3 e5 w4, ?_, ?_, tr_made e0 e1 e9 w7, tr_slot e6 e7 w8, tr_size e7 e8 e9 w9, tr_same e6 w10, tr_born e0 e1 e6 e8 w11, ?_, ?_, tr_tm e9 w14⟩
  · intro t ht2 h
    have h0 : ¬ hs P t := fun z => h (by unfold hs isF isS at *; rw [e0]; exact z)
    have h1 := w3 t ht2 h0
    rw [p2o t (fun z => h0 (z ▸ Or.inl hF)), e3, e6]
    exact h1
  · intro t ht h
    obtain ⟨g, hg, a1, a2, a3⟩ := w5 t ht ((eS t).mp h)
    refine ⟨g, hg, by rw [e3]; exact a1, by unfold isF at *; rw [e0]; exact a2, ?_⟩
    rcases a3 with a3 | ⟨x, hx, b1, b2, b3⟩
    · have z : g ≠ n := fun z => by rw [z, hF1] at a3; exact absurd a3.symm (nI_ne_m1 (by omega))
      exact Or.inl (by rw [p2o g z]; exact a3)
    · have z : x ≠ n := fun z => by rw [z, hF1] at b3; exact absurd b3.symm (nI_ne_m1 (by omega))
      exact Or.inr ⟨x, hx, (eS x).mpr b1, by rw [e3]; exact b2, by rw [p2o x z]; exact b3⟩
  · intro t ht
    rcases em_ne (t := t) (n := n) with w | w
    · subst w
      exact Or.inr ⟨u, hu, p2n, (eS u).mpr hS, fun h => absurd hF (sF ((eS t).mp h))⟩
    · rw [p2o t w]
      rcases w6 t ht with h | ⟨v, hv, a1, a2, a3⟩
      · exact Or.inl h
      · exact Or.inr ⟨v, hv, a1, (eS v).mpr a2, fun h => by rw [emd, emd]; exact a3 ((eS t).mp h)⟩
  · intro t v k b a1 a2 a3 a4 h1 h2 h3
    have g2 := (ehl t k b).mp h2
    have w : t ≠ n := fun w => hne k b a3 a4 (w ▸ g2)
    rw [p2o t w] at h1
    rw [ebt, emd] at h3
    exact (ehl v k b).mpr (w12 t v k b a1 a2 a3 a4 h1 g2 h3)
  · intro t t' k b a1 a2 a3 a4 h1 h2 h3 h4
    have g1 := (ehl t k b).mp h1
    have g2 := (ehl t' k b).mp h2
    have w : t ≠ n := fun w => hne k b a3 a4 (w ▸ g1)
    have w' : t' ≠ n := fun w => hne k b a3 a4 (w ▸ g2)
    exact w13 t t' k b a1 a2 a3 a4 g1 g2 ((htp t b w).mp h3) ((htp t' b w').mp h4)
