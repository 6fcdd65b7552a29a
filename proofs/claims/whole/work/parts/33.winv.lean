/-! ===== structure and freeing apart: what each act leaves before the freeing ===== -/
def W_size (P : PSt) : Prop := ∀ b, b < 96 → 0 ≤ sz1 P b ∧ sz1 P b ≤ 1000000000 ∧ (sz1 P b ≠ 0 → 1 ≤ bt1 P b ∧ bt1 P b ≤ tm P)
def WInv (P : PSt) : Prop := I_kind P ∧ I_none P ∧ I_bare P ∧ I_files P ∧ I_snap P ∧ I_prev P ∧ I_made P ∧ I_slot P ∧ W_size P ∧ I_same P ∧ I_born P ∧ I_keep P ∧ I_top P ∧ 1 ≤ tm P
theorem Inv.w {P : PSt} (h : Inv P) : WInv P := by
  obtain ⟨a, b, c, d, e, f, g, i, j, k⟩ := h
  exact ⟨a, b, c, d, e, f, g, i, fun b hb => ⟨(j b hb).1, (j b hb).2.1, fun h => ⟨((j b hb).2.2 h).1, ((j b hb).2.2 h).2.1⟩⟩, k⟩
theorem sz_ne {P : PSt} {b : Nat} : P 7 b ≠ 0 ↔ sz1 P b ≠ 0 := by
  unfold sz1
  constructor
  · intro h e
    exact h (Int32.toInt_inj.mp (e.trans (by decide)))
  · intro h e
    exact h (by rw [e]; decide)
theorem tr_kind {P Q : PSt} (e0 : Q 0 = P 0) (h : I_kind P) : I_kind Q := by
  unfold I_kind hs isF isS at *
  rw [e0]; exact h
theorem tr_none {P Q : PSt} (e0 : Q 0 = P 0) (e4 : Q 4 = P 4) (e5 : Q 5 = P 5) (h : I_none P) : I_none Q := by
  unfold I_none at *
  rw [e0, e4, e5]; exact h
theorem tr_files {P Q : PSt} (e0 : Q 0 = P 0) (e3 : Q 3 = P 3) (e5 : Q 5 = P 5) (h : I_files P) : I_files Q := by
  unfold I_files isF at *
  rw [e0, e3, e5]; exact h
theorem tr_snap {P Q : PSt} (e0 : Q 0 = P 0) (e2 : Q 2 = P 2) (e3 : Q 3 = P 3) (h : I_snap P) : I_snap Q := by
  unfold I_snap isF isS at *
  rw [e0, e2, e3]; exact h
theorem tr_prev {P Q : PSt} (e0 : Q 0 = P 0) (e1 : Q 1 = P 1) (e2 : Q 2 = P 2) (h : I_prev P) : I_prev Q := by
  unfold I_prev isS md at *
  rw [e0, e1, e2]; exact h
theorem tr_made {P Q : PSt} (e0 : Q 0 = P 0) (e1 : Q 1 = P 1) (e9 : Q 9 = P 9) (h : I_made P) : I_made Q := by
  unfold I_made isS md tm at *
  rw [e0, e1, e9]; exact h
theorem tr_bare {P Q : PSt} (e0 : Q 0 = P 0) (e2 : Q 2 = P 2) (e3 : Q 3 = P 3) (e6 : Q 6 = P 6) (h : I_bare P) : I_bare Q := by
  unfold I_bare hs isF isS at *
  rw [e0, e2, e3, e6]; exact h
theorem tr_slot {P Q : PSt} (e6 : Q 6 = P 6) (e7 : Q 7 = P 7) (h : I_slot P) : I_slot Q := by
  unfold I_slot hl sz1 at *
  rw [e6, e7]; exact h
theorem tr_size {P Q : PSt} (e7 : Q 7 = P 7) (e8 : Q 8 = P 8) (e9 : Q 9 = P 9) (h : W_size P) : W_size Q := by
  unfold W_size sz1 bt1 tm at *
  rw [e7, e8, e9]; exact h
theorem tr_same {P Q : PSt} (e6 : Q 6 = P 6) (h : I_same P) : I_same Q := by
  unfold I_same hl at *
  rw [e6]; exact h
theorem tr_born {P Q : PSt} (e0 : Q 0 = P 0) (e1 : Q 1 = P 1) (e6 : Q 6 = P 6) (e8 : Q 8 = P 8) (h : I_born P) : I_born Q := by
  unfold I_born isS hl bt1 md at *
  rw [e0, e1, e6, e8]; exact h
theorem tr_keep {P Q : PSt} (e1 : Q 1 = P 1) (e2 : Q 2 = P 2) (e6 : Q 6 = P 6) (e8 : Q 8 = P 8) (h : I_keep P) : I_keep Q := by
  unfold I_keep hl bt1 md at *
  rw [e1, e2, e6, e8]; exact h
theorem tr_top {P Q : PSt} (e1 : Q 1 = P 1) (e2 : Q 2 = P 2) (e6 : Q 6 = P 6) (e8 : Q 8 = P 8) (h : I_top P) : I_top Q := by
  unfold I_top top hl bt1 md at *
  rw [e1, e2, e6, e8]; exact h
theorem tr_tm {P Q : PSt} (e9 : Q 9 = P 9) (h : 1 ≤ tm P) : 1 ≤ tm Q := by
  unfold tm at *
  rw [e9]; exact h
/-- behind the freeing all holds -/
theorem GC_inv {Q P' : PSt} {n : Nat} (hW : WInv Q) (hG : GC Q P' n) : Inv P' := by
  obtain ⟨w1, w2, w3, w4, w5, w6, w7, w8, w9, w10, w11, w12, w13, w14⟩ := hW
  obtain ⟨ha, h9, hh, hn, -, -⟩ := hG
  have e : ∀ a, a ≤ 6 → P' a = Q a := fun a h => funext (fun i => ha a i h)
  have e0 := e 0 (by omega)
  have e1 := e 1 (by omega)
  have e2 := e 2 (by omega)
  have e3 := e 3 (by omega)
  have e4 := e 4 (by omega)
  have e5 := e 5 (by omega)
  have e6 := e 6 (by omega)
  have etm : tm P' = tm Q := by unfold tm; rw [h9]
  have ehl : ∀ t k b, hl P' t k b ↔ hl Q t k b := fun t k b => by unfold hl; rw [e6]
  have emd : ∀ t, md P' t = md Q t := fun t => by unfold md; rw [e1]
  have eS : ∀ t, isS P' t ↔ isS Q t := fun t => by unfold isS; rw [e0]
  have esz : ∀ t k b, t < 20 → k < 12 → b < 96 → hl Q t k b → sz1 P' b = sz1 Q b ∧ bt1 P' b = bt1 Q b := by
    intro t k b ht hk hb h
    have := hh b hb ⟨t, k, ht, hk, h⟩
    unfold sz1 bt1
    rw [this.1, this.2]
    exact ⟨rfl, rfl⟩
  refine ⟨tr_kind e0 w1, tr_none e0 e4 e5 w2, tr_bare e0 e2 e3 e6 w3, tr_files e0 e3 e5 w4, tr_snap e0 e2 e3 w5, tr_prev e0 e1 e2 w6, ?_, ?_, ?_, tr_same e6 w10, ?_, ?_, ?_, by rw [etm]; exact w14⟩
  · intro t ht h
    rw [emd, etm]
    exact w7 t ht ((eS t).mp h)
  · intro t k ht hk
    rcases w8 t k ht hk with h | ⟨b, hb, h1, h2⟩
    · exact Or.inl (by rw [e6]; exact h)
    · exact Or.inr ⟨b, hb, (ehl t k b).mpr h1, by rw [(esz t k b ht hk hb h1).1]; exact h2⟩
  · intro b hb
    rcases Classical.em (held Q b) with h | h
    · obtain ⟨t, k, ht, hk, h1⟩ := h
      have h2 := esz t k b ht hk hb h1
      have h3 := w9 b hb
      rw [h2.1, h2.2, etm]
      exact ⟨h3.1, h3.2.1, fun z => ⟨(h3.2.2 z).1, (h3.2.2 z).2, t, k, ht, hk, (ehl t k b).mpr h1⟩⟩
    · have h1 : sz1 P' b = 0 := by unfold sz1; rw [hn b hb h]; decide
      rw [h1]
      exact ⟨by omega, by omega, fun z => absurd rfl z⟩
  · intro t k b ht hk hb h1 h2
    have h3 := (ehl t k b).mp h2
    rw [(esz t k b ht hk hb h3).2, emd]
    exact w11 t k b ht hk hb ((eS t).mp h1) h3
  · intro t u k b ht hu hk hb h1 h2 h3
    have h4 := (ehl t k b).mp h2
    rw [(esz t k b ht hk hb h4).2, emd] at h3
    rw [e2] at h1
    exact (ehl u k b).mpr (w12 t u k b ht hu hk hb h1 h4 h3)
  · intro t t' k b ht ht' hk hb h1 h2 h3 h4
    have g1 := (ehl t k b).mp h1
    have g2 := (ehl t' k b).mp h2
    have g3 : ∀ x, top P' x b → top Q x b := by
      intro x h u hu e
      have := h u hu (by rw [e2]; exact e)
      rw [emd, (esz t k b ht hk hb g1).2] at this
      exact this
    exact w13 t t' k b ht ht' hk hb g1 g2 (g3 t h3) (g3 t' h4)
/-- nothing was let go: all holds at once -/
theorem held_inv {Q : PSt} (hW : WInv Q) (h : ∀ b, b < 96 → sz1 Q b ≠ 0 → held Q b) : Inv Q ∧ GC Q Q 0 := by
  have h2 := GC_refl (Q := Q) (fun b hb z => h b hb (sz_ne.mp z))
  exact ⟨GC_inv hW h2, h2⟩
/-! the acts, one by one -/
theorem slt_ne {t k f k' : Nat} (hk : k < 12) (hk' : k' < 12) (h : t ≠ f ∨ k ≠ k') : t * 12 + k ≠ f * 12 + k' := by omega
theorem slt_eq {t k f k' : Nat} (hk : k < 12) (hk' : k' < 12) (h : t * 12 + k = f * 12 + k') : t = f ∧ k = k' := by omega
theorem W_esl {P Q : PSt} (hI : WInv P) {f k : Nat} (hf : f < 20) (hk : k < 12) (hF : isF P f) (er : ∀ a, a ≠ 6 → Q a = P a) (e6 : ∀ i, Q 6 i = if i = f * 12 + k then m1 else P 6 i) : WInv Q := by
  obtain ⟨w1, w2, w3, w4, w5, w6, w7, w8, w9, w10, w11, w12, w13, w14⟩ := hI
  have e0 := er 0 (by decide)
  have e1 := er 1 (by decide)
  have e2 := er 2 (by decide)
  have e3 := er 3 (by decide)
  have e4 := er 4 (by decide)
  have e5 := er 5 (by decide)
  have e7 := er 7 (by decide)
  have e8 := er 8 (by decide)
  have e9 := er 9 (by decide)
  have eS : ∀ t, isS Q t ↔ isS P t := fun t => by unfold isS; rw [e0]
  have emd : ∀ t, md Q t = md P t := fun t => by unfold md; rw [e1]
  have ebt : ∀ b, bt1 Q b = bt1 P b := fun t => by unfold bt1; rw [e8]
  have hq : ∀ t k' b, b < 96 → hl Q t k' b → hl P t k' b := by
    intro t k' b hb h
    unfold hl at h ⊢
    rw [e6] at h
    split at h
    · exact absurd h.symm (nI_ne_m1 (by omega))
    · exact h
  have ht : ∀ t b, top Q t b ↔ top P t b := by
    intro t b
    unfold top
    simp only [e2, emd, ebt]
  refine ⟨tr_kind e0 w1, tr_none e0 e4 e5 w2, ?_, tr_files e0 e3 e5 w4, tr_snap e0 e2 e3 w5, tr_prev e0 e1 e2 w6, tr_made e0 e1 e9 w7, ?_, tr_size e7 e8 e9 w9, ?_, ?_, ?_, ?_, tr_tm e9 w14⟩
  · intro t ht2 h
    have h1 := w3 t ht2 (fun z => h (by unfold hs isF isS at *; rw [e0]; exact z))
    rw [e2, e3]
    refine ⟨h1.1, h1.2.1, fun k' hk' => ?_⟩
    rw [e6]
    split
    · rfl
    · exact h1.2.2 k' hk'
  · intro t k' ht2 hk'
    rw [e6]
    split
    · exact Or.inl rfl
    · rename_i hne
      rcases w8 t k' ht2 hk' with h | ⟨b, hb, h1, h2⟩
      · exact Or.inl h
      · exact Or.inr ⟨b, hb, by unfold hl at h1 ⊢; rw [e6, if_neg hne]; exact h1, by unfold sz1 at h2 ⊢; rw [e7]; exact h2⟩
  · intro t t' k1 k2 b a1 a2 a3 a4 a5 h1 h2
    exact w10 t t' k1 k2 b a1 a2 a3 a4 a5 (hq _ _ _ a5 h1) (hq _ _ _ a5 h2)
  · intro t k1 b a1 a2 a3 h1 h2
    rw [ebt, emd]
    exact w11 t k1 b a1 a2 a3 ((eS t).mp h1) (hq _ _ _ a3 h2)
  · intro t u k1 b a1 a2 a3 a4 h1 h2 h3
    rw [e2] at h1
    rw [ebt, emd] at h3
    have h4 := w12 t u k1 b a1 a2 a3 a4 h1 (hq _ _ _ a4 h2) h3
    have hu := (pv_isS w6 a1 a2 h1).1
    have hne : u ≠ f := fun z => sF hu (z ▸ hF)
    unfold hl at h4 ⊢
    rw [e6, if_neg (slt_ne a3 hk (Or.inl hne))]
    exact h4
  · intro t t' k1 b a1 a2 a3 a4 h1 h2 h3 h4
    exact w13 t t' k1 b a1 a2 a3 a4 (hq _ _ _ a4 h1) (hq _ _ _ a4 h2) ((ht t b).mp h3) ((ht t' b).mp h4)
theorem W_fill {P Q : PSt} (hI : WInv P) {f k b : Nat} (hf : f < 20) (hk : k < 12) (hb : b < 96) (hF : isF P f) (hz : sz1 P b = 0) {v : Int32} (hv : 1 ≤ v.toInt ∧ v.toInt ≤ 1000000000) (er : ∀ a, a ≤ 5 ∨ a = 9 → Q a = P a) (e6 : ∀ i, Q 6 i = if i = f * 12 + k then nI b else P 6 i) (e7 : ∀ i, Q 7 i = if i = b then v else P 7 i) (e8 : ∀ i, Q 8 i = if i = b then P 9 0 else P 8 i) : WInv Q := by
  obtain ⟨w1, w2, w3, w4, w5, w6, w7, w8, w9, w10, w11, w12, w13, w14⟩ := hI
  have e0 := er 0 (by omega)
  have e1 := er 1 (by omega)
  have e2 := er 2 (by omega)
  have e3 := er 3 (by omega)
  have e4 := er 4 (by omega)
  have e5 := er 5 (by omega)
  have e9 := er 9 (by omega)
  have eS : ∀ t, isS Q t ↔ isS P t := fun t => by unfold isS; rw [e0]
  have emd : ∀ t, md Q t = md P t := fun t => by unfold md; rw [e1]
  have etm : tm Q = tm P := by unfold tm; rw [e9]
  have ebt : ∀ c, c ≠ b → bt1 Q c = bt1 P c := fun c h => by unfold bt1; rw [e8, if_neg h]
  have ebb : bt1 Q b = tm P := by unfold bt1 tm; rw [e8, if_pos rfl]
  have esz : ∀ c, c ≠ b → sz1 Q c = sz1 P c := fun c h => by unfold sz1; rw [e7, if_neg h]
  -- nothing holds b before
  have hno : ∀ t k', t < 20 → k' < 12 → ¬ hl P t k' b := fun t k' h1 h2 h3 => by
    have := hl_sz w8 h1 h2 hb h3
    omega
  have hq : ∀ t k' c, t < 20 → k' < 12 → c < 96 → hl Q t k' c → (t = f ∧ k' = k ∧ c = b) ∨ (c ≠ b ∧ hl P t k' c ∧ (t ≠ f ∨ k' ≠ k)) := by
    intro t k' c h1 h2 h3 h
    unfold hl at h
    rw [e6] at h
    split at h
    · rename_i z
      have := slt_eq h2 hk z
      exact Or.inl ⟨this.1, this.2, (nI_lt_inj (by omega) (by omega) h).symm⟩
    · rename_i z
      refine Or.inr ⟨fun w => hno t k' h1 h2 (w ▸ h), h, ?_⟩
      rcases Classical.em (t = f) with w | w
      · exact Or.inr (fun x => z (by rw [w, x]))
      · exact Or.inl w
  have htp : ∀ t c, c ≠ b → (top Q t c ↔ top P t c) := by
    intro t c hc
    unfold top
    simp only [e2, emd, ebt c hc]
  have hkeepq : ∀ t k' c, k' < 12 → (t ≠ f ∨ k' ≠ k) → hl P t k' c → hl Q t k' c := by
    intro t k' c h2 h h3
    unfold hl at h3 ⊢
    rw [e6, if_neg (slt_ne h2 hk h)]
    exact h3
  refine ⟨tr_kind e0 w1, tr_none e0 e4 e5 w2, ?_, tr_files e0 e3 e5 w4, tr_snap e0 e2 e3 w5, tr_prev e0 e1 e2 w6, tr_made e0 e1 e9 w7, ?_, ?_, ?_, ?_, ?_, ?_, tr_tm e9 w14⟩
  · intro t ht2 h
    have hP : ¬ hs P t := fun z => h (by unfold hs isF isS at *; rw [e0]; exact z)
    have h1 := w3 t ht2 hP
    rw [e2, e3]
    refine ⟨h1.1, h1.2.1, fun k' hk' => ?_⟩
    have hne : t ≠ f := fun z => hP (z ▸ Or.inl hF)
    rw [e6, if_neg (slt_ne hk' hk (Or.inl hne))]
    exact h1.2.2 k' hk'
  · intro t k' ht2 hk'
    rcases Classical.em (t = f ∧ k' = k) with ⟨z1, z2⟩ | z
    · subst z1; subst z2
      refine Or.inr ⟨b, hb, by unfold hl; rw [e6, if_pos rfl], ?_⟩
      unfold sz1
      rw [e7, if_pos rfl]
      exact hv.1
    · have z' : t ≠ f ∨ k' ≠ k := by
        rcases Classical.em (t = f) with w | w
        · exact Or.inr (fun x => z ⟨w, x⟩)
        · exact Or.inl w
      rcases w8 t k' ht2 hk' with h | ⟨c, hc, h1, h2⟩
      · exact Or.inl (by rw [e6, if_neg (slt_ne hk' hk z')]; exact h)
      · have hcb : c ≠ b := fun w => hno t k' ht2 hk' (w ▸ h1)
        exact Or.inr ⟨c, hc, hkeepq t k' c hk' z' h1, by rw [esz c hcb]; exact h2⟩
  · intro c hc
    rcases Classical.em (c = b) with w | w
    · subst w
      have : sz1 Q c = v.toInt := by unfold sz1; rw [e7, if_pos rfl]
      rw [this, ebb, etm]
      exact ⟨by omega, hv.2, fun _ => ⟨w14, by omega⟩⟩
    · rw [esz c w, ebt c w, etm]
      exact w9 c hc
  · intro t t' k1 k2 c a1 a2 a3 a4 a5 h1 h2
    rcases hq t k1 c a1 a3 a5 h1 with ⟨x1, x2, x3⟩ | ⟨x1, x2, x3⟩
    · rcases hq t' k2 c a2 a4 a5 h2 with ⟨y1, y2, y3⟩ | ⟨y1, y2, y3⟩
      · omega
      · exact absurd x3 y1
    · rcases hq t' k2 c a2 a4 a5 h2 with ⟨y1, y2, y3⟩ | ⟨y1, y2, y3⟩
      · exact absurd y3 x1
      · exact w10 t t' k1 k2 c a1 a2 a3 a4 a5 x2 y2
  · intro t k1 c a1 a2 a3 h1 h2
    have hS := (eS t).mp h1
    rcases hq t k1 c a1 a2 a3 h2 with ⟨x1, x2, x3⟩ | ⟨x1, x2, x3⟩
    · exact absurd hF (sF (x1 ▸ hS))
    · rw [ebt c x1, emd]
      exact w11 t k1 c a1 a2 a3 hS x2
  · intro t u k1 c a1 a2 a3 a4 h1 h2 h3
    rw [e2] at h1
    rw [emd] at h3
    have hu := (pv_isS w6 a1 a2 h1).1
    have hne : u ≠ f := fun z => sF hu (z ▸ hF)
    rcases hq t k1 c a1 a3 a4 h2 with ⟨x1, x2, x3⟩ | ⟨x1, x2, x3⟩
    · subst x3
      rw [ebb] at h3
      have := (w7 u a2 hu).2
      omega
    · rw [ebt c x1] at h3
      exact hkeepq u k1 c a3 (Or.inl hne) (w12 t u k1 c a1 a2 a3 a4 h1 x2 h3)
  · intro t t' k1 c a1 a2 a3 a4 h1 h2 h3 h4
    rcases hq t k1 c a1 a3 a4 h1 with ⟨x1, x2, x3⟩ | ⟨x1, x2, x3⟩
    · rcases hq t' k1 c a2 a3 a4 h2 with ⟨y1, y2, y3⟩ | ⟨y1, y2, y3⟩
      · omega
      · exact absurd x3 y1
    · rcases hq t' k1 c a2 a3 a4 h2 with ⟨y1, y2, y3⟩ | ⟨y1, y2, y3⟩
      · exact absurd y3 x1
      · exact w13 t t' k1 c a1 a2 a3 a4 x2 y2 ((htp t c x1).mp h3) ((htp t' c x1).mp h4)
/-- a new thing n that holds nothing and follows nothing: files, a bookmark -/
theorem W_new {P Q : PSt} (hI : WInv P) {n : Nat} (hn : n < 20) (h0 : P 0 n = m1) {kk : Int32} (hk : kk = 0 ∨ kk = 1 ∨ kk = 4) {qv : Int32} (hq : (kk = 0 → qv = m1) ∧ (kk = 1 → qv ≠ m1)) (e0 : ∀ t, Q 0 t = if t = n then kk else P 0 t) (e1 : ∀ t, t ≠ n → Q 1 t = P 1 t) (e5 : ∀ t, Q 5 t = if t = n then qv else P 5 t) (er : ∀ a, a = 2 ∨ a = 3 ∨ a = 4 ∨ (6 ≤ a ∧ a ≤ 9) → Q a = P a) : WInv Q := by
  obtain ⟨w1, w2, w3, w4, w5, w6, w7, w8, w9, w10, w11, w12, w13, w14⟩ := hI
  have e2 := er 2 (by omega)
  have e3 := er 3 (by omega)
  have e4 := er 4 (by omega)
  have e6 := er 6 (by omega)
  have e7 := er 7 (by omega)
  have e8 := er 8 (by omega)
  have e9 := er 9 (by omega)
  have hnP : ¬ hs P n := nhs_m1 h0
  have e0n : Q 0 n = kk := by rw [e0, if_pos rfl]
  have e0o : ∀ t, t ≠ n → Q 0 t = P 0 t := fun t h => by rw [e0, if_neg h]
  have hnS : ¬ isS Q n := by
    unfold isS
    rw [e0n]
    rcases hk with h | h | h <;> rw [h] <;> decide
  have eS : ∀ t, isS Q t ↔ isS P t := by
    intro t
    rcases Classical.em (t = n) with w | w
    · subst w
      exact ⟨fun h => absurd h hnS, fun h => absurd (Or.inr h) hnP⟩
    · unfold isS
      rw [e0o t w]
  have Sn : ∀ t, isS P t → t ≠ n := fun t h w => hnP (Or.inr (w ▸ h))
  have Fn : ∀ t, isF P t → isF Q t := fun t h => by
    have : t ≠ n := fun w => hnP (Or.inl (w ▸ h))
    unfold isF at *
    rw [e0o t this]
    exact h
  have emd : ∀ t, t ≠ n → md Q t = md P t := fun t h => by unfold md; rw [e1 t h]
  have ehl : ∀ t k b, hl Q t k b ↔ hl P t k b := fun t k b => by unfold hl; rw [e6]
  have ebt : ∀ b, bt1 Q b = bt1 P b := fun t => by unfold bt1; rw [e8]
  have etm : tm Q = tm P := by unfold tm; rw [e9]
  have prevn : ∀ t u, t < 20 → u < 20 → P 2 t = nI u → u ≠ n := fun t u ht hu h => Sn u (pv_isS w6 ht hu h).1
  have htp : ∀ t b, t < 20 → (top Q t b ↔ top P t b) := by
    intro t b ht
    unfold top
    constructor
    · intro h u hu e
      have := h u hu (by rw [e2]; exact e)
      rw [emd u (prevn t u ht hu e), ebt] at this
      exact this
    · intro h u hu e
      rw [e2] at e
      rw [emd u (prevn t u ht hu e), ebt]
      exact h u hu e
  refine ⟨?_, ?_, ?_, ?_, ?_, ?_, ?_, tr_slot e6 e7 w8, tr_size e7 e8 e9 w9, tr_same e6 w10, ?_, ?_, ?_, tr_tm e9 w14⟩
  · intro t ht
    rcases Classical.em (t = n) with w | w
    · subst w
      rw [e0n]
      rcases hk with h | h | h
      · exact Or.inr (Or.inl (Or.inl (Or.inl (e0n.trans h))))
      · exact Or.inr (Or.inl (Or.inl (Or.inr (e0n.trans h))))
      · exact Or.inr (Or.inr h)
    · have h1 := w1 t ht
      unfold hs isF isS at *
      rw [e0o t w]
      exact h1
  · intro t ht h
    rcases Classical.em (t = n) with w | w
    · subst w
      rw [e0n] at h
      rcases hk with h2 | h2 | h2 <;> rw [h2] at h <;> exact absurd h (by decide)
    · rw [e0o t w] at h
      rw [e4, e5, if_neg w]
      exact w2 t ht h
  · intro t ht h
    rcases Classical.em (t = n) with w | w
    · subst w
      rw [e2, e3, e6]
      exact w3 t ht hnP
    · rw [e2, e3, e6]
      exact w3 t ht (fun z => h (by unfold hs isF isS at *; rw [e0o t w]; exact z))
  · intro t ht h
    rcases Classical.em (t = n) with w | w
    · subst w
      rw [e3, e0n, e5, if_pos rfl]
      exact ⟨(w3 t ht hnP).2.1, hq.1, hq.2⟩
    · unfold isF at h
      rw [e0o t w] at h
      rw [e3, e0o t w, e5, if_neg w]
      exact w4 t ht h
  · intro t ht h
    obtain ⟨f, hf, a1, a2, a3⟩ := w5 t ht ((eS t).mp h)
    refine ⟨f, hf, by rw [e3]; exact a1, Fn f a2, ?_⟩
    rw [e2, e3]
    rcases a3 with a3 | ⟨u, hu, b1, b2, b3⟩
    · exact Or.inl a3
    · exact Or.inr ⟨u, hu, (eS u).mpr b1, b2, b3⟩
  · intro t ht
    rw [e2]
    rcases w6 t ht with h | ⟨u, hu, a1, a2, a3⟩
    · exact Or.inl h
    · refine Or.inr ⟨u, hu, a1, (eS u).mpr a2, fun h => ?_⟩
      have h2 := (eS t).mp h
      rw [emd u (Sn u a2), emd t (Sn t h2)]
      exact a3 h2
  · intro t ht h
    have h2 := (eS t).mp h
    rw [emd t (Sn t h2), etm]
    exact w7 t ht h2
  · intro t k b a1 a2 a3 h1 h2
    have h3 := (eS t).mp h1
    rw [ebt, emd t (Sn t h3)]
    exact w11 t k b a1 a2 a3 h3 ((ehl t k b).mp h2)
  · intro t u k b a1 a2 a3 a4 h1 h2 h3
    rw [e2] at h1
    rw [ebt, emd u (prevn t u a1 a2 h1)] at h3
    exact (ehl u k b).mpr (w12 t u k b a1 a2 a3 a4 h1 ((ehl t k b).mp h2) h3)
  · intro t t' k b a1 a2 a3 a4 h1 h2 h3 h4
    exact w13 t t' k b a1 a2 a3 a4 ((ehl t k b).mp h1) ((ehl t' k b).mp h2) ((htp t b a1).mp h3) ((htp t' b a2).mp h4)
theorem W_tags {P Q : PSt} (hI : WInv P) {n : Nat} (hn : P 0 n = 3) {v : Int32} (e4 : ∀ t, t ≠ n → Q 4 t = P 4 t) (er : ∀ a, a ≤ 3 ∨ (5 ≤ a ∧ a ≤ 9) → Q a = P a) : WInv Q := by
  obtain ⟨w1, w2, w3, w4, w5, w6, w7, w8, w9, w10, w11, w12, w13, w14⟩ := hI
  have e0 := er 0 (by omega)
  have e1 := er 1 (by omega)
  have e2 := er 2 (by omega)
  have e3 := er 3 (by omega)
  have e5 := er 5 (by omega)
  have e6 := er 6 (by omega)
  have e7 := er 7 (by omega)
  have e8 := er 8 (by omega)
  have e9 := er 9 (by omega)
  refine ⟨tr_kind e0 w1, ?_, tr_bare e0 e2 e3 e6 w3, tr_files e0 e3 e5 w4, tr_snap e0 e2 e3 w5, tr_prev e0 e1 e2 w6, tr_made e0 e1 e9 w7, tr_slot e6 e7 w8, tr_size e7 e8 e9 w9, tr_same e6 w10, tr_born e0 e1 e6 e8 w11, tr_keep e1 e2 e6 e8 w12, tr_top e1 e2 e6 e8 w13, tr_tm e9 w14⟩
  intro t ht h
  rw [e0] at h
  have : t ≠ n := fun w => by rw [w, hn] at h; exact absurd h (by decide)
  rw [e4 t this, e5]
  exact w2 t ht h
theorem W_tick {P Q : PSt} (hI : WInv P) (h9 : tm Q = tm P + 1) (er : ∀ a, a ≤ 8 → Q a = P a) : WInv Q := by
  obtain ⟨w1, w2, w3, w4, w5, w6, w7, w8, w9, w10, w11, w12, w13, w14⟩ := hI
  have e0 := er 0 (by omega)
  have e1 := er 1 (by omega)
  have e2 := er 2 (by omega)
  have e3 := er 3 (by omega)
  have e4 := er 4 (by omega)
  have e5 := er 5 (by omega)
  have e6 := er 6 (by omega)
  have e7 := er 7 (by omega)
  have e8 := er 8 (by omega)
  refine ⟨tr_kind e0 w1, tr_none e0 e4 e5 w2, tr_bare e0 e2 e3 e6 w3, tr_files e0 e3 e5 w4, tr_snap e0 e2 e3 w5, tr_prev e0 e1 e2 w6, ?_, tr_slot e6 e7 w8, ?_, tr_same e6 w10, tr_born e0 e1 e6 e8 w11, tr_keep e1 e2 e6 e8 w12, tr_top e1 e2 e6 e8 w13, by omega⟩
  · intro t ht h
    have := w7 t ht (by unfold isS at *; rw [← e0]; exact h)
    rw [show md Q t = md P t by unfold md; rw [e1], h9]
    omega
  · intro b hb
    have := w9 b hb
    rw [show sz1 Q b = sz1 P b by unfold sz1; rw [e7], show bt1 Q b = bt1 P b by unfold bt1; rw [e8], h9]
    exact ⟨this.1, this.2.1, fun z => ⟨(this.2.2 z).1, by have := (this.2.2 z).2; omega⟩⟩
