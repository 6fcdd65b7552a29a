/-! ===== copies of a pool ===== -/
def PEq (P Q : PSt) : Prop := (∀ a t, a ≤ 5 → t < 20 → Q a t = P a t) ∧ (∀ t k, t < 20 → k < 12 → Q 6 (t * 12 + k) = P 6 (t * 12 + k)) ∧ (∀ b, b < 96 → Q 7 b = P 7 b ∧ Q 8 b = P 8 b) ∧ Q 9 0 = P 9 0 ∧ Q 10 0 = P 10 0
theorem PEq_inv {P Q : PSt} (e : PEq P Q) (h : Inv P) : Inv Q := by
  obtain ⟨eA, e6, eB, e9, -⟩ := e
  obtain ⟨h1, h2, h3, h4, h5, h6, h7, h8, h9, h10, h11, h12, h13, h14⟩ := h
  have f0 : ∀ t, t < 20 → Q 0 t = P 0 t := fun t ht => eA 0 t (by omega) ht
  have f1 : ∀ t, t < 20 → md Q t = md P t := fun t ht => by unfold md; rw [eA 1 t (by omega) ht]
  have f2 : ∀ t, t < 20 → Q 2 t = P 2 t := fun t ht => eA 2 t (by omega) ht
  have f3 : ∀ t, t < 20 → Q 3 t = P 3 t := fun t ht => eA 3 t (by omega) ht
  have f4 : ∀ t, t < 20 → Q 4 t = P 4 t := fun t ht => eA 4 t (by omega) ht
  have f5 : ∀ t, t < 20 → Q 5 t = P 5 t := fun t ht => eA 5 t (by omega) ht
  have fb : ∀ b, b < 96 → bt1 Q b = bt1 P b := fun b hb => by unfold bt1; rw [(eB b hb).2]
  have fz : ∀ b, b < 96 → sz1 Q b = sz1 P b := fun b hb => by unfold sz1; rw [(eB b hb).1]
  have ft : tm Q = tm P := by unfold tm; rw [e9]
  have gF : ∀ t, t < 20 → (isF Q t ↔ isF P t) := fun t ht => by unfold isF; rw [f0 t ht]
  have gS : ∀ t, t < 20 → (isS Q t ↔ isS P t) := fun t ht => by unfold isS; rw [f0 t ht]
  have gH : ∀ t, t < 20 → (hs Q t ↔ hs P t) := fun t ht => by unfold hs; rw [gF t ht, gS t ht]
  have gl : ∀ t k b, t < 20 → k < 12 → (hl Q t k b ↔ hl P t k b) := fun t k b ht hk => by unfold hl; rw [e6 t k ht hk]
  have gt : ∀ t b, t < 20 → b < 96 → (top Q t b ↔ top P t b) := fun t b ht hb => by
    unfold top
    rw [f2 t ht, fb b hb]
    constructor
    · intro w u hu y; rw [← f1 u hu]; exact w u hu y
    · intro w u hu y; rw [f1 u hu]; exact w u hu y
  refine ⟨?_, ?_, ?_, ?_, ?_, ?_, ?_, ?_, ?_, ?_, ?_, ?_, ?_, ?_⟩
  · intro t ht
    rw [f0 t ht, gH t ht]; exact h1 t ht
  · intro t ht
    rw [f0 t ht, f4 t ht, f5 t ht]; exact h2 t ht
  · intro t ht
    rw [gH t ht, f2 t ht, f3 t ht]
    intro w
    obtain ⟨a, b, c⟩ := h3 t ht w
    exact ⟨a, b, fun k hk => by rw [e6 t k ht hk]; exact c k hk⟩
  · intro t ht
    rw [gF t ht, f3 t ht, f0 t ht, f5 t ht]; exact h4 t ht
  · intro t ht
    rw [gS t ht, f3 t ht]
    intro w
    obtain ⟨f, hf, a, b, c⟩ := h5 t ht w
    refine ⟨f, hf, a, (gF f hf).mpr b, ?_⟩
    rw [f2 f hf]
    rcases c with c | ⟨u, hu, c1, c2, c3⟩
    · exact Or.inl c
    · exact Or.inr ⟨u, hu, (gS u hu).mpr c1, (f3 u hu).trans c2, (f2 u hu).trans c3⟩
  · intro t ht
    rw [f2 t ht]
    rcases h6 t ht with c | ⟨u, hu, c1, c2, c3⟩
    · exact Or.inl c
    · exact Or.inr ⟨u, hu, c1, (gS u hu).mpr c2, fun w => by rw [f1 u hu, f1 t ht]; exact c3 ((gS t ht).mp w)⟩
  · intro t ht
    rw [gS t ht, f1 t ht, ft]; exact h7 t ht
  · intro t k ht hk
    rw [e6 t k ht hk]
    rcases h8 t k ht hk with c | ⟨b, hb, c1, c2⟩
    · exact Or.inl c
    · exact Or.inr ⟨b, hb, (gl t k b ht hk).mpr c1, by rw [fz b hb]; exact c2⟩
  · intro b hb
    rw [fz b hb, fb b hb, ft]
    obtain ⟨c1, c2, c3⟩ := h9 b hb
    refine ⟨c1, c2, fun w => ?_⟩
    obtain ⟨d1, d2, t, k, ht, hk, d3⟩ := c3 w
    exact ⟨d1, d2, t, k, ht, hk, (gl t k b ht hk).mpr d3⟩
  · intro t t' k k' b ht ht' hk hk' hb
    rw [gl t k b ht hk, gl t' k' b ht' hk']; exact h10 t t' k k' b ht ht' hk hk' hb
  · intro t k b ht hk hb
    rw [gS t ht, gl t k b ht hk, fb b hb, f1 t ht]; exact h11 t k b ht hk hb
  · intro t u k b ht hu hk hb
    rw [f2 t ht, gl t k b ht hk, gl u k b hu hk, fb b hb, f1 u hu]; exact h12 t u k b ht hu hk hb
  · intro t t' k b ht ht' hk hb
    rw [gl t k b ht hk, gl t' k b ht' hk, gt t b ht hb, gt t' b ht' hb]; exact h13 t t' k b ht ht' hk hb
  · rw [ft]; exact h14
theorem PEq_sim {P Q : PSt} {s : RSt} (e : PEq P Q) (h : Sim P s) : Sim Q s := by
  obtain ⟨eA, e6, eB, e9, e10⟩ := e
  obtain ⟨h1, h2, h3, h4, h5, h6⟩ := h
  have f0 : ∀ t, t < 20 → Q 0 t = P 0 t := fun t ht => eA 0 t (by omega) ht
  refine ⟨?_, ?_, ?_, ?_, ?_, ?_⟩
  · rw [e9, e10]; exact h1
  · intro t ht; rw [f0 t ht]; exact h2 t ht
  · intro t ht
    rw [f0 t ht, eA 1 t (by omega) ht, eA 2 t (by omega) ht, eA 3 t (by omega) ht, eA 4 t (by omega) ht, eA 5 t (by omega) ht]
    exact h3 t ht
  · intro t k ht hk w
    rw [e6 t k ht hk]
    refine h4 t k ht hk ?_
    unfold hs isF isS at w ⊢
    rw [f0 t ht] at w
    exact w
  · intro b hb; rw [(eB b hb).1]; exact h5 b hb
  · intro b hb; rw [(eB b hb).1, (eB b hb).2]; exact h6 b hb
theorem Sim_eq {P : PSt} {s s' : RSt} (e : ∀ j, j < 554 → s' j = s j) (h : Sim P s) : Sim P s' := by
  obtain ⟨h1, h2, h3, h4, h5, h6⟩ := h
  refine ⟨?_, ?_, ?_, ?_, ?_, ?_⟩
  · rw [e 0 (by omega), e 1 (by omega)]; exact h1
  · intro t ht; rw [e (2 + t) (by omega)]; exact h2 t ht
  · intro t ht
    rw [e (22 + t) (by omega), e (42 + t) (by omega), e (62 + t) (by omega), e (82 + t) (by omega), e (102 + t) (by omega)]
    exact h3 t ht
  · intro t k ht hk w
    rw [e (122 + 12 * t + k) (by omega)]; exact h4 t k ht hk w
  · intro b hb; rw [e (362 + b) (by omega)]; exact h5 b hb
  · intro b hb; rw [e (458 + b) (by omega)]; exact h6 b hb
theorem PEq_good {P Q : PSt} {s s' : RSt} {n : Nat} (e : PEq P Q) (e2 : ∀ j, j < 554 → s' j = s j) (h : Good P s n) : Good Q s' n := by
  refine ⟨PEq_inv e h.1, Sim_eq e2 (PEq_sim e h.2.1), ?_⟩
  have : tm Q = tm P := by unfold tm; rw [e.2.2.2.1]
  rw [this]; exact h.2.2
