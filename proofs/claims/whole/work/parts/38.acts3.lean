/-! ===== filling, and what only adds ===== -/
theorem held_mono {P Q : PSt} (hI : Inv P) (e7 : ∀ b, b < 96 → sz1 Q b ≠ 0 → sz1 P b ≠ 0 ∨ held Q b) (hh : ∀ t k b, t < 20 → k < 12 → b < 96 → hl P t k b → held Q b) : ∀ b, b < 96 → sz1 Q b ≠ 0 → held Q b := by
  intro b hb z
  rcases e7 b hb z with h | h
  · obtain ⟨t, k, g1, g2, g3⟩ := ((hI.2.2.2.2.2.2.2.2.1 b hb).2.2 h).2.2
    exact hh t k b g1 g2 hb g3
  · exact h
def fil (P : PSt) (f k N : Nat) (v tv : Int32) : PSt := st (st (st P 7 N v) 8 N tv) 6 (f * 12 + k) (nI N)
theorem fil_row {P : PSt} {f k N a : Nat} {v tv : Int32} (h : a ≤ 5 ∨ a = 9 ∨ a = 10) : fil P f k N v tv a = P a := by
  unfold fil
  rw [st_row (by omega), st_row (by omega), st_row (by omega)]
theorem fil_6 {P : PSt} {f k N i : Nat} {v tv : Int32} : fil P f k N v tv 6 i = if i = f * 12 + k then nI N else P 6 i := by
  unfold fil
  rw [st_if, st_ne1 (by decide), st_ne1 (by decide)]
  by_cases h : i = f * 12 + k
  · rw [if_pos ⟨rfl, h⟩, if_pos h]
  · rw [if_neg (by omega), if_neg h]
theorem fil_7 {P : PSt} {f k N i : Nat} {v tv : Int32} : fil P f k N v tv 7 i = if i = N then v else P 7 i := by
  unfold fil
  rw [st_ne1 (by decide), st_ne1 (by decide), st_if]
  by_cases h : i = N
  · rw [if_pos ⟨rfl, h⟩, if_pos h]
  · rw [if_neg (by omega), if_neg h]
theorem fil_8 {P : PSt} {f k N i : Nat} {v tv : Int32} : fil P f k N v tv 8 i = if i = N then tv else P 8 i := by
  unfold fil
  rw [st_ne1 (by decide), st_if, st_ne1 (by decide)]
  by_cases h : i = N
  · rw [if_pos ⟨rfl, h⟩, if_pos h]
  · rw [if_neg (by omega), if_neg h]
theorem held_fil {P : PSt} {f k N b : Nat} {v tv : Int32} (hf : f < 20) (hk : k < 12) (hN : N < 96) (hb : b < 96) : held (fil P f k N v tv) b ↔ b = N ∨ held (st P 6 (f * 12 + k) m1) b := by
  rw [held_esl hk hb]
  constructor
  · rintro ⟨t, k', ht, hk', h⟩
    unfold hl at h
    rw [fil_6] at h
    split at h
    · exact Or.inl (nI_lt_inj (by omega) (by omega) h).symm
    · rename_i z
      refine Or.inr ⟨t, k', ht, hk', h, ?_⟩
      rcases em_ne (t := t) (n := f) with w | w
      · exact Or.inr (fun y => z (by rw [w, y]))
      · exact Or.inl w
  · rintro (h | ⟨t, k', ht, hk', h, hne⟩)
    · subst h
      exact ⟨f, k, hf, hk, by unfold hl; rw [fil_6, if_pos rfl]⟩
    · exact ⟨t, k', ht, hk', by unfold hl; rw [fil_6, if_neg (slt_ne hk' hk hne)]; exact h⟩
/-- emptying a slot doesn't mind a new block that stands nowhere yet -/
theorem empty_add {P : PSt} {f k N : Nat} (hf : f < 20) (hk : k < 12) (hs : P 6 (f * 12 + k) = m1 ∨ ∃ b, b < 96 ∧ b ≠ N ∧ P 6 (f * 12 + k) = nI b) {v tv : Int32} {n : Nat} {P1 : PSt} (h : xX0_emptySlot P (nI f) (nI k) = some (nI n, P1)) : xX0_emptySlot (st (st P 7 N v) 8 N tv) (nI f) (nI k) = some (nI n, st (st P1 7 N v) 8 N tv) := by
  rcases hs with hs | ⟨b, hb, hbN, hs⟩
  · rw [c_emptySlot_m1 hf hk hs] at h
    obtain ⟨e1, e2⟩ := some2 h
    subst e2
    rw [c_emptySlot_m1 hf hk (by rw [st_ne1 (by decide), st_ne1 (by decide)]; exact hs), e1]
    congr 2
    funext a i
    simp only [st_if]
    by_cases h6 : a = 6 <;> by_cases h7 : a = 7 <;> by_cases h8 : a = 8 <;> simp [h6, h7, h8] <;> omega
  · rw [c_emptySlot_b hf hk hb hs] at h
    rw [c_emptySlot_b hf hk hb (by rw [st_ne1 (by decide), st_ne1 (by decide)]; exact hs)]
    have e8 : st (st P 7 N v) 8 N tv 8 b = P 8 b := by rw [st_ne2 hbN, st_ne1 (by decide)]
    rw [e8, st_row (show (1 : Nat) ≠ 8 by decide), st_row (show (1 : Nat) ≠ 7 by decide), st_row (show (2 : Nat) ≠ 8 by decide), st_row (show (2 : Nat) ≠ 7 by decide)]
    split at h
    · rename_i hc
      obtain ⟨e1, e2⟩ := some2 h
      subst e2
      rw [if_pos hc, e1]
      congr 2
      funext a i
      unfold frb
      simp only [st_if]
      by_cases h6 : a = 6
      · subst h6; simp
      · by_cases h7 : a = 7
        · subst h7
          by_cases hi : i = b
          · subst hi; simp [hbN]
          · by_cases hi2 : i = N <;> simp [hi, hi2, Ne.symm hbN]
        · by_cases h8 : a = 8
          · subst h8
            by_cases hi : i = b
            · subst hi; simp [hbN]
            · by_cases hi2 : i = N <;> simp [hi, hi2, Ne.symm hbN]
          · by_cases h10 : a = 10 <;> simp [h6, h7, h8, h10]
    · rename_i hc
      obtain ⟨e1, e2⟩ := some2 h
      subst e2
      rw [if_neg hc, e1]
      congr 2
      funext a i
      simp only [st_if]
      by_cases h6 : a = 6 <;> by_cases h7 : a = 7 <;> by_cases h8 : a = 8 <;> simp [h6, h7, h8] <;> omega
/-- a new block in a slot of files -/
theorem c_fill59 {P : PSt} (hI : Inv P) {f k : Nat} (hf : f < 20) (hk : k < 12) (hF : isF P f) {v : Int32} (hv : 1 ≤ v.toInt ∧ v.toInt ≤ 1000000000) {N : Nat} (hN : fst1 (fun j => decide (P 7 j = 0)) 96 = N) : (N < 96 → ∃ n P', xX0_fillSlot_59 (nI f) (nI k) v P = some (nI N, P') ∧ GC (fil P f k N v (P 9 0)) P' n ∧ Inv P') ∧ (¬ N < 96 → xX0_fillSlot_59 (nI f) (nI k) v P = some (-4, P)) := by
  have hI2 := hI
  obtain ⟨w1, w2, w3, w4, w5, w6, w7, w8, w9, w10, w11, w12, w13, w14⟩ := hI2
  constructor
  · intro hN96
    have hz : P 7 N = 0 := by
      have := fst1_yes (fun j => decide (P 7 j = 0)) 96 (by omega)
      rw [hN] at this
      simpa using this
    have hz1 : sz1 P N = 0 := by unfold sz1; rw [hz]; decide
    obtain ⟨n, P1, e1, hG, hI1⟩ := E_slot hI hf hk hF
    have hslot : P 6 (f * 12 + k) = m1 ∨ ∃ b, b < 96 ∧ b ≠ N ∧ P 6 (f * 12 + k) = nI b := by
      rcases w8 f k hf hk with h | ⟨b, hb, h, h2⟩
      · exact Or.inl h
      · exact Or.inr ⟨b, hb, fun z => by subst z; omega, h⟩
    have e2 := empty_add (N := N) (v := v) (tv := P 9 0) hf hk hslot e1
    refine ⟨n, fil P1 f k N v (P 9 0), ?_, ?_⟩
    · unfold xX0_fillSlot_59
      rw [c_newBlock P v hN, if_pos hN96, bn2_s, if_neg (by
        intro z
        have := congrArg Int32.toInt z
        rw [nI_toInt (by omega)] at this
        rw [show ((-4 : Int32)).toInt = -4 by decide] at this
        omega), e2, bn2_s, c_setSlot hf hk, bn1_s]
      rfl
    · have hG2 : GC (fil P f k N v (P 9 0)) (fil P1 f k N v (P 9 0)) n := by
        obtain ⟨a1, b1, c1, d1, f1, p1, g1, k1⟩ := hG
        refine ⟨fun a i ha => ?_, ?_, fun b hb h => ?_, fun b hb h => ?_, ?_, p1, fun b hb => ?_, k1⟩
        · rcases (show a ≤ 5 ∨ a = 6 by omega) with h | h
          · rw [fil_row (Or.inl h), fil_row (Or.inl h), a1 a i ha, st_ne1 (by omega)]
          · subst h
            rw [fil_6, fil_6]
            split
            · rfl
            · rename_i hne
              rw [a1 6 i (by omega), st_ne2 hne]
        · rw [fil_row (by omega), fil_row (by omega), b1, st_ne1 (by decide)]
        · rw [fil_7, fil_7, fil_8, fil_8]
          rcases (held_fil hf hk hN96 hb).mp h with w | w
          · rw [if_pos w, if_pos w, if_pos w, if_pos w]; exact ⟨rfl, rfl⟩
          · have hbN : b ≠ N := fun z => by
              subst z
              obtain ⟨t, k', g1, g2, g3, -⟩ := (held_esl hk hb).mp w
              have := hl_sz w8 g1 g2 hb g3
              omega
            rw [if_neg hbN, if_neg hbN, if_neg hbN, if_neg hbN]
            have := c1 b hb w
            rw [st_ne1 (by decide), st_ne1 (by decide)] at this
            exact this
        · have hbN : b ≠ N := fun z => h ((held_fil hf hk hN96 hb).mpr (Or.inl z))
          rw [fil_7, if_neg hbN]
          exact d1 b hb (fun z => h ((held_fil hf hk hN96 hb).mpr (Or.inr z)))
        · rw [fil_row (by omega), fil_row (by omega), f1, st_ne1 (by decide)]
        · have g2 := g1 b hb
          rw [st_ne1 (by decide)] at g2
          rw [fil_7, held_fil hf hk hN96 hb, g2]
          by_cases hbN : b = N
          · subst hbN
            simp [hz]
          · rw [if_neg hbN]
            simp [hbN]
      exact ⟨hG2, GC_inv (W_fill hI.w hf hk hN96 hF hz1 hv (fun a ha => fil_row (by omega)) (fun i => fil_6) (fun i => fil_7) (fun i => fil_8)) hG2⟩
  · intro hN96
    unfold xX0_fillSlot_59
    rw [c_newBlock P v hN, if_neg hN96, bn2_s, if_pos rfl]
/-- new files -/
theorem A_files {P : PSt} (hI : Inv P) {N : Nat} (hN : N < 20) (h0 : P 0 N = m1) {kk qv md0 : Int32} (hk : kk = 0 ∨ kk = 1) (hq : (kk = 0 → qv = m1) ∧ (kk = 1 → qv ≠ m1)) : Inv (st (st (st P 0 N kk) 1 N md0) 5 N qv) := by
  refine (held_inv (W_new hI.w hN h0 (hk.elim Or.inl (fun h => Or.inr (Or.inl h))) hq (fun t => ?_) (fun t h => ?_) (fun t => ?_) (fun a ha => ?_)) (held_mono hI (fun b hb z => Or.inl ?_) (fun t k b ht hk hb h => ⟨t, k, ht, hk, ?_⟩))).1
  · rw [st_ne1 (by decide), st_ne1 (by decide), st_if]
    by_cases w : t = N
    · rw [if_pos ⟨rfl, w⟩, if_pos w]
    · rw [if_neg (by omega), if_neg w]
  · rw [st_ne1 (by decide), st_ne2 h, st_ne1 (by decide)]
  · rw [st_if, st_ne1 (by decide), st_ne1 (by decide)]
    by_cases w : t = N
    · rw [if_pos ⟨rfl, w⟩, if_pos w]
    · rw [if_neg (by omega), if_neg w]
  · rw [st_row (by omega), st_row (by omega), st_row (by omega)]
  · unfold sz1 at z ⊢
    rw [st_ne1 (by decide), st_ne1 (by decide), st_ne1 (by decide)] at z
    exact z
  · unfold hl at h ⊢
    rw [st_ne1 (by decide), st_ne1 (by decide), st_ne1 (by decide)]
    exact h
/-- a new bookmark -/
theorem A_mark {P : PSt} (hI : Inv P) {N : Nat} (hN : N < 20) (h0 : P 0 N = m1) {md0 : Int32} : Inv (st (st P 0 N 4) 1 N md0) := by
  refine (held_inv (W_new (qv := P 5 N) hI.w hN h0 (kk := 4) (Or.inr (Or.inr rfl)) ⟨fun h => absurd h (by decide), fun h => absurd h (by decide)⟩ (fun t => ?_) (fun t h => ?_) (fun t => ?_) (fun a ha => ?_)) (held_mono hI (fun b hb z => Or.inl ?_) (fun t k b ht hk hb h => ⟨t, k, ht, hk, ?_⟩))).1
  · rw [st_ne1 (by decide), st_if]
    by_cases w : t = N
    · rw [if_pos ⟨rfl, w⟩, if_pos w]
    · rw [if_neg (by omega), if_neg w]
  · rw [st_ne2 h, st_ne1 (by decide)]
  · rw [st_ne1 (by decide), st_ne1 (by decide)]
    by_cases w : t = N
    · rw [if_pos w, w]
    · rw [if_neg w]
  · rw [st_row (by omega), st_row (by omega)]
  · unfold sz1 at z ⊢
    rw [st_ne1 (by decide), st_ne1 (by decide)] at z
    exact z
  · unfold hl at h ⊢
    rw [st_ne1 (by decide), st_ne1 (by decide)]
    exact h
theorem A_tags {P : PSt} (hI : Inv P) {n : Nat} (hn : P 0 n = 3) {v : Int32} : Inv (st P 4 n v) := by
  refine (held_inv (W_tags (v := v) hI.w hn (fun t h => st_ne2 h) (fun a ha => st_row (by omega))) (held_mono hI (fun b hb z => Or.inl ?_) (fun t k b ht hk hb h => ⟨t, k, ht, hk, ?_⟩))).1
  · unfold sz1 at z ⊢
    rw [st_ne1 (by decide)] at z
    exact z
  · unfold hl at h ⊢
    rw [st_ne1 (by decide)]
    exact h
theorem tm_add {P : PSt} (h : tm P < 2000000000) (h1 : 1 ≤ tm P) : (P 9 0 + 1).toInt = tm P + 1 := by
  unfold tm at *
  have hb := Int32.toInt_add (P 9 0) 1
  rw [show (1 : Int32).toInt = 1 by decide] at hb
  rw [hb]
  exact Int.bmod_eq_of_le (by omega) (by omega)
theorem A_tick {P : PSt} (hI : Inv P) (h : tm P < 2000000000) : Inv (st P 9 0 (P 9 0 + 1)) := by
  have h1 := hI.2.2.2.2.2.2.2.2.2.2.2.2.2
  refine (held_inv (Q := st P 9 0 (P 9 0 + 1)) (W_tick hI.w (by show (st P 9 0 (P 9 0 + 1) 9 0).toInt = _; rw [st_eq]; exact tm_add h h1) (fun a ha => st_row (by omega))) (held_mono hI (fun b hb z => Or.inl ?_) (fun t k b ht hk hb h => ⟨t, k, ht, hk, ?_⟩))).1
  · unfold sz1 at z ⊢
    rw [st_ne1 (by decide)] at z
    exact z
  · unfold hl at h ⊢
    rw [st_ne1 (by decide)]
    exact h
/-- a new snapshot -/
def snp (P : PSt) (f n : Nat) (kk tg : Int32) : PSt := st (st (st (st (st (cps (st (st P 0 n kk) 1 n (P 9 0)) f n 12) 2 n (P 2 f)) 3 n (nI f)) 4 n tg) 2 f (nI n)) 9 0 (P 9 0 + 1)
theorem c_snap42 {P : PSt} {f : Nat} (hf : f < 20) {kk tg : Int32} {N : Nat} (hN : fst1 (fun j => decide (P 0 j = m1)) 20 = N) (hfN : f ≠ N) : xX0_addSnapshot_42 (nI f) tg kk P = some (if N < 20 then (nI N, snp P f N kk tg) else (-4, P)) := by
  unfold xX0_addSnapshot_42
  rw [c_now, bn1_s, c_newThing P kk (P 9 0) hN]
  by_cases h : N < 20
  · have hne : ¬ nI N = -4 := by
      intro z
      have := congrArg Int32.toInt z
      rw [nI_toInt (by omega), show ((-4 : Int32)).toInt = -4 by decide] at this
      omega
    rw [if_pos h, if_pos h, bn2_s, if_neg hne, c_copySlots hf h hfN, bn1_s, c_prevOf, bn1_s, rd_nI (by decide) hf, c_setPrev h, bn1_s, c_setOwner h, bn1_s, c_setTags h, bn1_s, c_setPrev hf, bn1_s, c_now, bn1_s, c_setTime, bn1_s]
    have e2 : cps (st (st P 0 N kk) 1 N (P 9 0)) f N 12 2 f = P 2 f := by rw [cps_row (by decide), st_ne1 (by decide), st_ne1 (by decide)]
    rw [e2]
    have e9 : st (st (st (st (cps (st (st P 0 N kk) 1 N (P 9 0)) f N 12) 2 N (P 2 f)) 3 N (nI f)) 4 N tg) 2 f (nI N) 9 0 = P 9 0 := by rw [st_ne1 (by decide), st_ne1 (by decide), st_ne1 (by decide), st_ne1 (by decide), cps_row (by decide), st_ne1 (by decide), st_ne1 (by decide)]
    rw [e9]
    rfl
  · rw [if_neg h, if_neg h, bn2_s, if_pos rfl]
theorem A_snap {P : PSt} (hI : Inv P) {f N : Nat} (hf : f < 20) (hN : N < 20) (h0 : P 0 N = m1) (hF : isF P f) {kk tg : Int32} (hk : kk = 2 ∨ kk = 3) (h : tm P < 2000000000) : Inv (snp P f N kk tg) := by
  have h1 := hI.2.2.2.2.2.2.2.2.2.2.2.2.2
  have hfN : f ≠ N := fun z => nhs_m1 h0 (Or.inl (z ▸ hF))
  have e6 : ∀ t k, t < 20 → k < 12 → snp P f N kk tg 6 (t * 12 + k) = if t = N then P 6 (f * 12 + k) else P 6 (t * 12 + k) := by
    intro t k ht hk2
    unfold snp
    rw [st_ne1 (by decide), st_ne1 (by decide), st_ne1 (by decide), st_ne1 (by decide), st_ne1 (by decide), cps_at ht hk2]
    simp only [st_ne1 (show (6 : Nat) ≠ 1 by decide), st_ne1 (show (6 : Nat) ≠ 0 by decide)]
  refine (held_inv (W_snapN hI.w hN hf h0 hF hk (fun t => ?_) (fun t => ?_) (fun t => ?_) (fun t => ?_) (fun t ht => ?_) (fun a ha => ?_) e6 ?_) (held_mono hI (fun b hb z => Or.inl ?_) (fun t k b ht hk2 hb hh => ⟨t, k, ht, hk2, ?_⟩))).1
  · unfold snp
    rw [st_ne1 (by decide), st_ne1 (by decide), st_ne1 (by decide), st_ne1 (by decide), st_ne1 (by decide), cps_row (by decide), st_ne1 (by decide), st_if]
    by_cases w : t = N
    · rw [if_pos ⟨rfl, w⟩, if_pos w]
    · rw [if_neg (by omega), if_neg w]
  · unfold snp
    rw [st_ne1 (by decide), st_ne1 (by decide), st_ne1 (by decide), st_ne1 (by decide), st_ne1 (by decide), cps_row (by decide), st_if]
    by_cases w : t = N
    · rw [if_pos ⟨rfl, w⟩, if_pos w]
    · rw [if_neg (by omega), if_neg w, st_ne1 (by decide)]
  · unfold snp
    rw [st_ne1 (by decide), st_if]
    by_cases w : t = f
    · rw [if_pos ⟨rfl, w⟩, if_pos w]
    · rw [if_neg (by omega), if_neg w, st_ne1 (by decide), st_ne1 (by decide), st_if]
      by_cases y : t = N
      · rw [if_pos ⟨rfl, y⟩, if_pos y]
      · rw [if_neg (by omega), if_neg y, cps_row (by decide), st_ne1 (by decide), st_ne1 (by decide)]
  · unfold snp
    rw [st_ne1 (by decide), st_ne1 (by decide), st_ne1 (by decide), st_if]
    by_cases w : t = N
    · rw [if_pos ⟨rfl, w⟩, if_pos w]
    · rw [if_neg (by omega), if_neg w, st_ne1 (by decide), cps_row (by decide), st_ne1 (by decide), st_ne1 (by decide)]
  · unfold snp
    rw [st_ne1 (by decide), st_ne1 (by decide), st_ne2 ht, st_ne1 (by decide), st_ne1 (by decide), cps_row (by decide), st_ne1 (by decide), st_ne1 (by decide)]
  · unfold snp
    rw [st_row (by omega), st_row (by omega), st_row (by omega), st_row (by omega), st_row (by omega), cps_row (by omega), st_row (by omega), st_row (by omega)]
  · show (snp P f N kk tg 9 0).toInt = tm P + 1
    unfold snp
    rw [st_eq]
    exact tm_add h h1
  · unfold sz1 at z ⊢
    unfold snp at z
    rw [st_ne1 (by decide), st_ne1 (by decide), st_ne1 (by decide), st_ne1 (by decide), st_ne1 (by decide), cps_row (by decide), st_ne1 (by decide), st_ne1 (by decide)] at z
    exact z
  · have hs := hl_hs hI.2.2.1 ht hk2 hb hh
    unfold hl at hh ⊢
    rw [e6 t k ht hk2, if_neg (fun w : t = N => nhs_m1 h0 (w ▸ hs))]
    exact hh
/-- a fork -/
def frk (P : PSt) (u n : Nat) : PSt := st (cps (st (st P 0 n 0) 1 n (P 9 0)) u n 12) 2 n (nI u)
theorem A_fork {P : PSt} (hI : Inv P) {u N : Nat} (hu : u < 20) (hN : N < 20) (h0 : P 0 N = m1) (hS : isS P u) : Inv (frk P u N) := by
  have huN : u ≠ N := fun z => nhs_m1 h0 (Or.inr (z ▸ hS))
  have hb := hI.2.2.1 N hN (nhs_m1 h0)
  have h5 := (hI.2.1 N hN h0).2
  have i1 : Inv (st (st (st P 0 N 0) 1 N (P 9 0)) 5 N m1) := A_files hI hN h0 (Or.inl rfl) ⟨fun _ => rfl, fun h => absurd h (by decide)⟩
  have e1 : st (st (st P 0 N 0) 1 N (P 9 0)) 5 N m1 = st (st P 0 N 0) 1 N (P 9 0) := st_same (by rw [st_ne1 (by decide), st_ne1 (by decide)]; exact h5)
  rw [e1] at i1
  generalize hQ : st (st P 0 N 0) 1 N (P 9 0) = Q1 at i1
  have q : ∀ a i, a ≠ 0 → a ≠ 1 → Q1 a i = P a i := fun a i h1 h2 => by rw [← hQ, st_ne1 h2, st_ne1 h1]
  have q0 : Q1 0 N = 0 := by rw [← hQ, st_ne1 (by decide), st_eq]
  have qS : isS Q1 u := by
    unfold isS
    rw [← hQ, st_ne1 (by decide), st_ne2 huN]
    exact hS
  have w1 : WInv (st Q1 2 N (nI u)) := W_newp i1.w hN hu q0 (by rw [q 2 N (by decide) (by decide)]; exact hb.1) (fun k hk => by rw [q 6 _ (by decide) (by decide)]; exact hb.2.2 k hk) qS (fun t => by
    rw [st_if]
    by_cases w : t = N
    · rw [if_pos ⟨rfl, w⟩, if_pos w]
    · rw [if_neg (by omega), if_neg w]) (fun a ha => st_row ha)
  have w2 : WInv (frk P u N) := by
    refine W_like w1 hN hu (Or.inl (by rw [st_ne1 (by decide)]; exact q0)) (by unfold isS; rw [st_ne1 (by decide)]; exact qS) (by rw [st_eq]) (fun a ha => ?_) (fun t k ht hk => ?_)
    · unfold frk
      rw [hQ]
      funext i
      rw [st_if, st_if, cps_row ha]
    · unfold frk
      rw [hQ, st_ne1 (by decide), cps_at ht hk, st_ne1 (by decide), st_ne1 (by decide)]
  refine (held_inv w2 (held_mono hI (fun b hb2 z => Or.inl ?_) (fun t k b ht hk2 hb2 hh => ⟨t, k, ht, hk2, ?_⟩))).1
  · unfold sz1 at z ⊢
    unfold frk at z
    rw [st_ne1 (by decide), cps_row (by decide), st_ne1 (by decide), st_ne1 (by decide)] at z
    exact z
  · have hs := hl_hs hI.2.2.1 ht hk2 hb2 hh
    unfold hl at hh ⊢
    unfold frk
    rw [st_ne1 (by decide), cps_at ht hk2, if_neg (fun w : t = N => nhs_m1 h0 (w ▸ hs)), st_ne1 (by decide), st_ne1 (by decide)]
    exact hh
