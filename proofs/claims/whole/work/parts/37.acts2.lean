/-! ===== rolling back, removing, filling ===== -/
theorem cps_row {P : PSt} {f t k a : Nat} (h : a ≠ 6) : cps P f t k a = P a := by
  funext i
  unfold cps
  rw [if_neg (by omega)]
theorem cps_at {P : PSt} {u f t k : Nat} (ht : t < 20) (hk : k < 12) : cps P u f 12 6 (t * 12 + k) = if t = f then P 6 (u * 12 + k) else P 6 (t * 12 + k) := by
  unfold cps
  by_cases h : t = f
  · subst h
    rw [if_pos ⟨rfl, by omega, by omega⟩, if_pos rfl, show t * 12 + k - t * 12 = k by omega]
  · rw [if_neg (by omega), if_neg h]
theorem clr_at {P : PSt} {f t k : Nat} (ht : t < 20) (hk : k < 12) : clr P f 12 6 (t * 12 + k) = if t = f then m1 else P 6 (t * 12 + k) := by
  unfold clr
  by_cases h : t = f
  · subst h
    rw [if_pos ⟨rfl, by omega, by omega⟩, if_pos rfl]
  · rw [if_neg (by omega), if_neg h]
theorem drp_at {P : PSt} {f t k : Nat} (ht : t < 20) (hk : k < 12) : drp P f 6 (t * 12 + k) = if t = f then m1 else P 6 (t * 12 + k) := by
  unfold drp
  rw [if_neg (by omega)]
  by_cases h : t = f
  · subst h
    rw [if_pos ⟨rfl, by omega, by omega⟩, if_pos rfl]
  · rw [if_neg (by omega), if_neg h]
theorem drp_lo {P : PSt} {f a i : Nat} (ha : a ≤ 5) : drp P f a i = if i = f then (if a = 1 ∨ a = 4 then 0 else m1) else P a i := by
  unfold drp
  by_cases h : i = f
  · rw [if_pos ⟨ha, h⟩, if_pos h]
  · rw [if_neg (by omega), if_neg (by omega), if_neg h]
theorem drp_hi {P : PSt} {f a : Nat} (ha : 7 ≤ a) : drp P f a = P a := by
  funext i
  unfold drp
  rw [if_neg (by omega), if_neg (by omega)]
/-- the freeing carried over to a structure with the same holders -/
theorem GC_to {Q R Q2 R2 : PSt} {n : Nat} (hG : GC Q R n) (h6 : ∀ a i, a ≤ 6 → R2 a i = Q2 a i) (hh : ∀ b, b < 96 → (held Q2 b ↔ held Q b)) (eR : ∀ a i, (7 ≤ a ∧ a ≤ 10) → R2 a i = R a i) (eQ : ∀ a i, (7 ≤ a ∧ a ≤ 10) → Q2 a i = Q a i) : GC Q2 R2 n := by
  obtain ⟨a1, b1, c1, d1, f1, p1, g1, k1⟩ := hG
  refine ⟨h6, ?_, fun b hb h => ?_, fun b hb h => ?_, ?_, p1, fun b hb => ?_, k1⟩
  · rw [eR 9 0 (by omega), eQ 9 0 (by omega)]; exact b1
  · rw [eR 7 b (by omega), eQ 7 b (by omega), eR 8 b (by omega), eQ 8 b (by omega)]
    exact c1 b hb ((hh b hb).mp h)
  · rw [eR 7 b (by omega)]
    exact d1 b hb (fun z => h ((hh b hb).mpr z))
  · rw [eR 10 0 (by omega), eQ 10 0 (by omega)]; exact f1
  · rw [eQ 7 b (by omega), hh b hb]
    exact g1 b hb
theorem c_rollback {P : PSt} (hI : Inv P) {f u : Nat} (hf : f < 20) (hu : u < 20) (hF : isF P f) (hS : isS P u) (hp : P 2 f = nI u) : ∃ n P', xX0_rollFilesBack_39 600 (nI f) (nI u) 0 0 P = some (nI n, P') ∧ GC (cps P u f 12) P' n ∧ Inv P' := by
  have huf : u ≠ f := fun z => sF hS (z ▸ hF)
  obtain ⟨m, n, R, e, hG, hIR⟩ := E_all hI hf hF (fun m i s => xX0_rollFilesBack_39 m (nI f) (nI u) s.1 (nI i) s.2) (fun n i g R hi => by
    simp only [xX0_rollFilesBack_39]
    simp (disch := omega) only [L0, L1, L2, L3, L4, L5, L8, L9, L10, L11, L12, L19, L20, L22, L40, L42, L60, L62, L82, L95, L96, L100, L102, L122, L240, L256, L362, L458, L554, L1000000000, L100000, Lm1, nI_addE, nI_mulE, nI_inj, nI_ltE, nI_leE, nI_clE, nI_m1, m1_nI, m1_lt, m1_le, nI_lt_m1, nI_le_m1, ix_nI, dT_le, dF_le, dT_lt, dF_lt, dT_eq, dF_eq, iT, iF, grd_t, lt1_s, bn1_s, bn2_s, bn3_s, bn4_s, bn5_s, nI_add0])
  have e2 : xX0_rollFilesBack_39 (m + 1) (nI f) (nI u) (nI n) (nI 12) R = some (nI n, cps R u f 12) := by
    simp only [xX0_rollFilesBack_39, c_copySlots hu hf huf]
    simp (disch := omega) only [L0, L1, L2, L3, L4, L5, L8, L9, L10, L11, L12, L19, L20, L22, L40, L42, L60, L62, L82, L95, L96, L100, L102, L122, L240, L256, L362, L458, L554, L1000000000, L100000, Lm1, nI_addE, nI_mulE, nI_inj, nI_ltE, nI_leE, nI_clE, nI_m1, m1_nI, m1_lt, m1_le, nI_lt_m1, nI_le_m1, ix_nI, dT_le, dF_le, dT_lt, dF_lt, dT_eq, dF_eq, iT, iF, grd_t, lt1_s, bn1_s, bn2_s, bn3_s, bn4_s, bn5_s, nI_add0]
  have r6 := GC_rows hG (a := 6) (by omega)
  have hrow : ∀ a i, a ≤ 6 → cps R u f 12 a i = cps P u f 12 a i := by
    intro a i ha
    unfold cps
    by_cases h : a = 6 ∧ f * 12 ≤ i ∧ i < f * 12 + 12
    · rw [if_pos h, if_pos h, r6]
      unfold clr
      rw [if_neg (by omega)]
    · rw [if_neg h, if_neg h, hG.1 a i ha]
      unfold clr
      rw [if_neg h]
  have hheld : ∀ b, b < 96 → (held (cps P u f 12) b ↔ held (clr P f 12) b) := by
    intro b hb
    constructor
    · rintro ⟨t, k, ht, hk, h⟩
      unfold hl at h
      rw [cps_at ht hk] at h
      by_cases w : t = f
      · rw [if_pos w] at h
        exact ⟨u, k, hu, hk, by unfold hl; rw [clr_at hu hk, if_neg huf]; exact h⟩
      · rw [if_neg w] at h
        exact ⟨t, k, ht, hk, by unfold hl; rw [clr_at ht hk, if_neg w]; exact h⟩
    · rintro ⟨t, k, ht, hk, h⟩
      unfold hl at h
      rw [clr_at ht hk] at h
      by_cases w : t = f
      · rw [if_pos w] at h
        exact absurd h.symm (nI_ne_m1 (by omega))
      · rw [if_neg w] at h
        exact ⟨t, k, ht, hk, by unfold hl; rw [cps_at ht hk, if_neg w]; exact h⟩
  have hG2 : GC (cps P u f 12) (cps R u f 12) n := GC_to hG hrow hheld (fun a i h => by rw [cps_row (by omega)]) (fun a i h => by rw [cps_row (by omega), clr_row (by omega)])
  refine ⟨n, _, e.trans e2, hG2, GC_inv (W_like hI.w hf hu hF hS hp (fun a ha => cps_row ha) (fun t k ht hk => cps_at ht hk)) hG2⟩
theorem drp_W {P : PSt} (hI : WInv P) {X : Nat} (hX : X < 20) (hXS : ¬ isS P X) (hno : ∀ t, t < 20 → P 3 t ≠ nI X) : WInv (drp P X) :=
  W_drop hI hX hXS hno (fun t => by rw [drp_lo (by omega)]; rfl) (fun t h => by rw [drp_lo (by omega), if_neg h]) (fun t => by rw [drp_lo (by omega)]; rfl) (fun t => by rw [drp_lo (by omega)]; rfl) (fun t => by rw [drp_lo (by omega)]; rfl) (fun t => by rw [drp_lo (by omega)]; rfl) (fun a ha => drp_hi (by omega)) (fun t k ht hk => drp_at ht hk)
theorem c_removeFiles {P : PSt} (hI : Inv P) {f : Nat} (hf : f < 20) (hF : isF P f) (hno : ∀ t, t < 20 → P 3 t ≠ nI f) : ∃ n P', xX0_removeThing_67 600 (nI f) 0 0 P = some (nI n, P') ∧ GC (drp P f) P' n ∧ Inv P' := by
  obtain ⟨m, n, R, e, hG, hIR⟩ := E_all hI hf hF (fun m i s => xX0_removeThing_67 m (nI f) s.1 (nI i) s.2) (fun n i g R hi => by
    simp only [xX0_removeThing_67]
    simp (disch := omega) only [L0, L1, L2, L3, L4, L5, L8, L9, L10, L11, L12, L19, L20, L22, L40, L42, L60, L62, L82, L95, L96, L100, L102, L122, L240, L256, L362, L458, L554, L1000000000, L100000, Lm1, nI_addE, nI_mulE, nI_inj, nI_ltE, nI_leE, nI_clE, nI_m1, m1_nI, m1_lt, m1_le, nI_lt_m1, nI_le_m1, ix_nI, dT_le, dF_le, dT_lt, dF_lt, dT_eq, dF_eq, iT, iF, grd_t, lt1_s, bn1_s, bn2_s, bn3_s, bn4_s, bn5_s, nI_add0])
  have e2 : xX0_removeThing_67 (m + 1) (nI f) (nI n) (nI 12) R = some (nI n, drp R f) := by
    simp only [xX0_removeThing_67, c_dropThing hf]
    simp (disch := omega) only [L0, L1, L2, L3, L4, L5, L8, L9, L10, L11, L12, L19, L20, L22, L40, L42, L60, L62, L82, L95, L96, L100, L102, L122, L240, L256, L362, L458, L554, L1000000000, L100000, Lm1, nI_addE, nI_mulE, nI_inj, nI_ltE, nI_leE, nI_clE, nI_m1, m1_nI, m1_lt, m1_le, nI_lt_m1, nI_le_m1, ix_nI, dT_le, dF_le, dT_lt, dF_lt, dT_eq, dF_eq, iT, iF, grd_t, lt1_s, bn1_s, bn2_s, bn3_s, bn4_s, bn5_s, nI_add0]
  have hrow : ∀ a i, a ≤ 6 → drp R f a i = drp P f a i := by
    intro a i ha
    unfold drp
    by_cases h : a ≤ 5 ∧ i = f
    · rw [if_pos h, if_pos h]
    · rw [if_neg h, if_neg h]
      by_cases h2 : a = 6 ∧ f * 12 ≤ i ∧ i < f * 12 + 12
      · rw [if_pos h2, if_pos h2]
      · rw [if_neg h2, if_neg h2, hG.1 a i ha]
        unfold clr
        rw [if_neg h2]
  have hheld : ∀ b, b < 96 → (held (drp P f) b ↔ held (clr P f 12) b) := by
    intro b hb
    constructor
    · rintro ⟨t, k, ht, hk, h⟩
      unfold hl at h
      rw [drp_at ht hk] at h
      exact ⟨t, k, ht, hk, by unfold hl; rw [clr_at ht hk]; exact h⟩
    · rintro ⟨t, k, ht, hk, h⟩
      unfold hl at h
      rw [clr_at ht hk] at h
      exact ⟨t, k, ht, hk, by unfold hl; rw [drp_at ht hk]; exact h⟩
  have hG2 : GC (drp P f) (drp R f) n := GC_to hG hrow hheld (fun a i h => by rw [drp_hi (by omega)]) (fun a i h => by rw [drp_hi (by omega), clr_row (by omega)])
  exact ⟨n, _, e.trans e2, hG2, GC_inv (drp_W hI.w hf (fun h => sF h hF) hno) hG2⟩
theorem st_same {P : PSt} {k i : Nat} {v : Int32} (h : P k i = v) : st P k i v = P := by
  funext a b
  rw [st_if]
  split
  · rename_i z
    rw [z.1, z.2, h]
  · rfl
theorem c_removeMark {P : PSt} (hI : Inv P) {X : Nat} (hX : X < 20) (h4 : P 0 X = 4) : xX0_removeThing_67 600 (nI X) 0 0 P = some (nI 0, drp P X) ∧ GC (drp P X) (drp P X) 0 ∧ Inv (drp P X) := by
  have hI2 := hI
  obtain ⟨w1, w2, w3, w4, w5, w6, w7, w8, w9, w10, w11, w12, w13, w14⟩ := hI2
  have hb := w3 X hX (nhs_4 h4)
  have e : xX0_removeThing_67 600 (nI X) (nI 0) (nI 0) P = some (nI 0, drp P X) := by
    refine loop0 (fun n i (_ : Unit) => xX0_removeThing_67 n (nI X) (nI 0) (nI i) P) (fun _ => ()) _ 12 600 (by decide) ?_ ?_
    · intro n i hi
      simp only [xX0_removeThing_67, c_emptySlot_m1 hX hi (hb.2.2 i hi), st_same (hb.2.2 i hi)]
      simp (disch := omega) only [L0, L1, L2, L3, L4, L5, L8, L9, L10, L11, L12, L19, L20, L22, L40, L42, L60, L62, L82, L95, L96, L100, L102, L122, L240, L256, L362, L458, L554, L1000000000, L100000, Lm1, nI_addE, nI_mulE, nI_inj, nI_ltE, nI_leE, nI_clE, nI_m1, m1_nI, m1_lt, m1_le, nI_lt_m1, nI_le_m1, ix_nI, dT_le, dF_le, dT_lt, dF_lt, dT_eq, dF_eq, iT, iF, grd_t, lt1_s, bn1_s, bn2_s, bn3_s, bn4_s, bn5_s, nI_add0]
    · intro n
      simp only [xX0_removeThing_67, c_dropThing hX]
      simp (disch := omega) only [L0, L1, L2, L3, L4, L5, L8, L9, L10, L11, L12, L19, L20, L22, L40, L42, L60, L62, L82, L95, L96, L100, L102, L122, L240, L256, L362, L458, L554, L1000000000, L100000, Lm1, nI_addE, nI_mulE, nI_inj, nI_ltE, nI_leE, nI_clE, nI_m1, m1_nI, m1_lt, m1_le, nI_lt_m1, nI_le_m1, ix_nI, dT_le, dF_le, dT_lt, dF_lt, dT_eq, dF_eq, iT, iF, grd_t, lt1_s, bn1_s, bn2_s, bn3_s, bn4_s, bn5_s, nI_add0]
  have hno : ∀ t, t < 20 → P 3 t ≠ nI X := by
    intro t ht z
    obtain ⟨g, hg, a1, a2, -⟩ := w5 t ht (own_isS w3 w4 ht hX z)
    have : g = X := nI_lt_inj (by omega) (by omega) (a1.symm.trans z)
    subst this
    exact nhs_4 h4 (Or.inl a2)
  have hW := drp_W hI.w hX (fun h => nhs_4 h4 (Or.inr h)) hno
  have hh := held_inv hW (fun b hb2 z => by
    have z2 : sz1 P b ≠ 0 := by
      unfold sz1 at z ⊢
      rw [drp_hi (by omega)] at z
      exact z
    obtain ⟨t, k, g1, g2, g3⟩ := ((w9 b hb2).2.2 z2).2.2
    refine ⟨t, k, g1, g2, ?_⟩
    unfold hl
    rw [drp_at g1 g2, if_neg]
    · exact g3
    · intro w
      subst w
      unfold hl at g3
      rw [hb.2.2 k g2] at g3
      exact absurd g3.symm (nI_ne_m1 (by omega)))
  exact ⟨e, hh.2, hh.1⟩
/-! a snapshot goes -/
def RmI (P : PSt) (S N i : Nat) (s : Int32 × PSt) : Prop := ∃ (g : Nat) (p : Nat → Bool), s.1 = nI g ∧ cnt p 96 = g ∧ (∀ b, b < 96 → (p b = true ↔ ∃ j, j < i ∧ hl P S j b ∧ ¬ hl P N j b ∧ top P S b)) ∧ (∀ a j, a ≤ 6 ∨ a = 9 → s.2 a j = P a j) ∧ (∀ b, b < 96 → s.2 7 b = (if p b then 0 else P 7 b) ∧ s.2 8 b = (if p b then 0 else P 8 b)) ∧ s.2 10 0 = P 10 0 + nI g
theorem c_rmSnap {P : PSt} (hI : Inv P) {S N : Nat} (hS : S < 20) (hN : N < 20) (hSS : isS P S) (hp : P 2 N = nI S) (hu : ∀ j, j < 20 → P 2 j = nI S → j = N) : ∃ n P', xX0_removeSnapshot P (nI S) = some (nI n, P') ∧ GC (drp (st P 2 N (P 2 S)) S) P' n ∧ Inv P' := by
  have hI2 := hI
  obtain ⟨w1, w2, w3, w4, w5, w6, w7, w8, w9, w10, w11, w12, w13, w14⟩ := hI2
  have hNS : N ≠ S := by
    intro z
    have h := pv_isS w6 hN hS hp
    rw [z] at h
    have := h.2 hSS
    omega
  have hNk : P 0 N ≠ m1 := sN (pv_hs w3 hN hS hp)
  unfold xX0_removeSnapshot
  rw [c_firstNext hN hNk hp (fun j hj hne e => hne (hu j hj e)), bn1_s, c_prevOf, bn1_s, rd_nI (by decide) hS]
  -- the loop
  have hloop := loopI (fun m i (s : Int32 × PSt) => xX0_removeSnapshot_24 m (nI S) (nI N) (P 2 S) s.1 (nI i) s.2)
    (fun i s => RmI P S N i s) 12 (fun m i s hi hs => by
    obtain ⟨gv, R⟩ := s
    obtain ⟨g, p, e1, e2, hp1, hr, h78, h10⟩ := hs
    have e1' : gv = nI g := e1
    subst e1'
    dsimp only at hr h78 h10
    have hr' : ∀ a, a ≤ 6 ∨ a = 9 → R a = P a := fun a ha => funext (fun j => hr a j ha)
    have r6 := hr' 6 (by omega)
    have r1 := hr' 1 (by omega)
    have bS : bi R (nI S) (nI i) = P 6 (S * 12 + i) := by rw [bi_nI hS hi, r6]
    have bN : bi R (nI N) (nI i) = P 6 (N * 12 + i) := by rw [bi_nI hN hi, r6]
    -- where nothing goes
    have stay : (∀ b, b < 96 → hl P S i b → ¬ hl P N i b → ¬ top P S b) → RmI P S N (i + 1) (nI g, R) := by
      intro hno
      refine ⟨g, p, rfl, e2, fun b hb => ?_, hr, h78, h10⟩
      rw [hp1 b hb]
      constructor
      · rintro ⟨j, hj, z⟩
        exact ⟨j, by omega, z⟩
      · rintro ⟨j, hj, z⟩
        refine ⟨j, ?_, z⟩
        rcases Nat.lt_or_ge j i with h | h
        · exact h
        · have : j = i := by omega
          subst this
          exact absurd z.2.2 (hno b hb z.1 z.2.1)
    have step0 : ∀ v, xX0_removeSnapshot_69 (xX0_removeSnapshot_24 m) (nI S) (nI N) (P 2 S) (nI g) (nI i) v 0 R = xX0_removeSnapshot_24 m (nI S) (nI N) (P 2 S) (nI g) (nI (i + 1)) R := by
      intro v
      unfold xX0_removeSnapshot_69
      rw [if_pos rfl, show nI i + 1 = nI (i + 1) from nI_1 i]
    have open1 : xX0_removeSnapshot_24 (m + 1) (nI S) (nI N) (P 2 S) (nI g) (nI i) R = if P 6 (S * 12 + i) = -1 then xX0_removeSnapshot_69 (xX0_removeSnapshot_24 m) (nI S) (nI N) (P 2 S) (nI g) (nI i) (P 6 (S * 12 + i)) 0 R else if P 6 (S * 12 + i) = P 6 (N * 12 + i) then xX0_removeSnapshot_69 (xX0_removeSnapshot_24 m) (nI S) (nI N) (P 2 S) (nI g) (nI i) (P 6 (S * 12 + i)) 0 R else xX0_removeSnapshot_69 (xX0_removeSnapshot_24 m) (nI S) (nI N) (P 2 S) (nI g) (nI i) (P 6 (S * 12 + i)) 1 R := by
      simp only [xX0_removeSnapshot_24, c_blockIn, bn1_s, bS, bN]
      rw [if_neg (by rw [L12, nI_leE (by omega) (by omega)]; omega)]
    show ∃ s' : Int32 × PSt, xX0_removeSnapshot_24 (m + 1) (nI S) (nI N) (P 2 S) (nI g) (nI i) R = xX0_removeSnapshot_24 m (nI S) (nI N) (P 2 S) s'.1 (nI (i + 1)) s'.2 ∧ RmI P S N (i + 1) s'
    rw [open1]
    rcases w8 S i hS hi with h | ⟨b, hb, h, hz⟩
    · rw [if_pos h, step0]
      refine ⟨(nI g, R), rfl, stay (fun b hb z _ _ => ?_)⟩
      unfold hl at z
      rw [h] at z
      exact nI_ne_m1 (by omega) z.symm
    · have h' : P 6 (S * 12 + i) = nI b := h
      rw [if_neg (by rw [h']; exact nI_ne_m1 (by omega))]
      have uniq : ∀ c, c < 96 → hl P S i c → c = b := fun c hc z => nI_lt_inj (by omega) (by omega) (z.symm.trans h)
      by_cases hq : P 6 (S * 12 + i) = P 6 (N * 12 + i)
      · rw [if_pos hq, step0]
        refine ⟨(nI g, R), rfl, stay (fun c hc z z2 _ => ?_)⟩
        have := uniq c hc z
        subst this
        exact z2 (hq.symm.trans h)
      · rw [if_neg hq, h']
        have hnN : ¬ hl P N i b := fun z => hq (h'.trans z.symm)
        have hpb : p b = false := by
          cases hpb : p b with
          | false => rfl
          | true =>
            obtain ⟨j, hj, z, -⟩ := (hp1 b hb).mp hpb
            have := w10 S S j i b hS hS (by omega) hi hb z h
            omega
        have b8 : rd 96 (R 8) 0 (nI b) = P 8 b := by
          rw [rd_nI (by decide) hb, (h78 b hb).2, hpb]
          rfl
        have hbt := ((w9 b hb).2.2 (by omega)).1
        have hti := top_iff w6 hS hbt
        unfold xX0_removeSnapshot_69
        rw [if_neg (by decide), c_birthOf, bn1_s, c_madeOf, bn1_s, b8, r1]
        by_cases hle : P 8 b ≤ rd 20 (P 1) 0 (P 2 S)
        · rw [if_pos hle]
          refine ⟨(nI g, R), by rw [show nI i + 1 = nI (i + 1) from nI_1 i], stay (fun c hc z _ z3 => ?_)⟩
          have := uniq c hc z
          subst this
          have := hti.mpr z3
          rw [Int32.lt_iff_toInt_lt] at this
          rw [Int32.le_iff_toInt_le] at hle
          omega
        · have htop : top P S b := hti.mp (by
            rw [Int32.lt_iff_toInt_lt]
            rw [Int32.le_iff_toInt_le] at hle
            omega)
          rw [if_neg hle, c_freeBlock hb, bn1_s]
          refine ⟨(nI (g + 1), frb R b), by rw [show nI i + 1 = nI (i + 1) from nI_1 i, show nI g + 1 = nI (g + 1) from nI_1 g], g + 1, fun c => p c || decide (c = b), rfl, ?_, fun c hc => ?_, fun a j ha => ?_, fun c hc => ?_, ?_⟩
          · rw [← e2]
            exact cnt_add1 hb (fun c hc hne => by simp [hne]) (by simp) hpb
          · rw [Bool.or_eq_true, hp1 c hc, decide_eq_true_eq]
            constructor
            · rintro (⟨j, hj, z⟩ | z)
              · exact ⟨j, by omega, z⟩
              · subst z
                exact ⟨i, by omega, h, hnN, htop⟩
            · rintro ⟨j, hj, z⟩
              rcases Nat.lt_or_ge j i with y | y
              · exact Or.inl ⟨j, y, z⟩
              · have : j = i := by omega
                subst this
                exact Or.inr (uniq c hc z.1)
          · dsimp only
            rw [frb_lo (by omega)]
            exact hr a j ha
          · dsimp only
            rw [frb_7, frb_8]
            by_cases y : c = b
            · simp [y]
            · rw [if_neg y, if_neg y]
              have := h78 c hc
              simp [y, this.1, this.2]
          · dsimp only
            rw [frb_10]
            show R 10 0 + 1 = P 10 0 + nI (g + 1)
            rw [h10, ← nI_succE, Int32.add_assoc]
            rfl) 12 600 0 (0, P) (by omega) (by omega) ⟨0, fun _ => false, rfl, cnt_zero.mpr (fun _ _ => rfl), fun b hb => ⟨fun z => (by cases z), fun ⟨j, hj, _⟩ => (by omega)⟩, fun _ _ _ => rfl, fun _ _ => ⟨rfl, rfl⟩, by show P 10 0 = P 10 0 + nI 0; rw [nI_add0]⟩
  obtain ⟨m, s', e, g, p, e1, e2, hp1, hr, h78, h10⟩ := hloop
  obtain ⟨gv, R⟩ := s'
  have e1' : gv = nI g := e1
  subst e1'
  dsimp only at hr h78 h10
  have hend : xX0_removeSnapshot_24 (m + 1) (nI S) (nI N) (P 2 S) (nI g) (nI 12) R = some (nI g, drp (st R 2 N (P 2 S)) S) := by
    simp only [xX0_removeSnapshot_24, c_setPrev hN, c_dropThing hS]
    simp (disch := omega) only [L0, L1, L2, L3, L4, L5, L8, L9, L10, L11, L12, L19, L20, L22, L40, L42, L60, L62, L82, L95, L96, L100, L102, L122, L240, L256, L362, L458, L554, L1000000000, L100000, Lm1, nI_addE, nI_mulE, nI_inj, nI_ltE, nI_leE, nI_clE, nI_m1, m1_nI, m1_lt, m1_le, nI_lt_m1, nI_le_m1, ix_nI, dT_le, dF_le, dT_lt, dF_lt, dT_eq, dF_eq, iT, iF, grd_t, lt1_s, bn1_s, bn2_s, bn3_s, bn4_s, bn5_s, nI_add0]
  -- who holds what without S
  have hheld : ∀ b, b < 96 → (held (drp (st P 2 N (P 2 S)) S) b ↔ ∃ t k, t < 20 ∧ k < 12 ∧ t ≠ S ∧ hl P t k b) := by
    intro b hb
    constructor
    · rintro ⟨t, k, ht, hk, h⟩
      unfold hl at h
      rw [drp_at ht hk] at h
      by_cases w : t = S
      · rw [if_pos w] at h
        exact absurd h.symm (nI_ne_m1 (by omega))
      · rw [if_neg w, st_ne1 (by decide)] at h
        exact ⟨t, k, ht, hk, w, h⟩
    · rintro ⟨t, k, ht, hk, w, h⟩
      refine ⟨t, k, ht, hk, ?_⟩
      unfold hl
      rw [drp_at ht hk, if_neg w, st_ne1 (by decide)]
      exact h
  have hpq : ∀ b, b < 96 → (p b = true ↔ (P 7 b ≠ 0 ∧ ¬ held (drp (st P 2 N (P 2 S)) S) b)) := by
    intro b hb
    rw [hp1 b hb, hheld b hb]
    constructor
    · rintro ⟨j, hj, z1, z2, z3⟩
      refine ⟨sz_ne.mpr (by have := hl_sz w8 hS hj hb z1; omega), ?_⟩
      rintro ⟨t, k, ht, hk, w, h⟩
      have := top_snap hI hS hj hb z1 z3 (fun u hu2 e3 => by rw [hu u hu2 e3]; exact z2) ht hk h
      exact w this.1
    · rintro ⟨z1, z2⟩
      obtain ⟨t, k, g1, g2, g3⟩ := ((w9 b hb).2.2 (sz_ne.mp z1)).2.2
      have : t = S := by
        rcases em_ne (t := t) (n := S) with w | w
        · exact w
        · exact absurd ⟨t, k, g1, g2, w, g3⟩ z2
      subst this
      refine ⟨k, g2, g3, fun z => z2 ⟨N, k, hN, g2, hNS, z⟩, ?_⟩
      rcases top_or (P := P) (t := t) (b := b) with y | ⟨v, hv, e3, y⟩
      · exact y
      · have hv2 := pv_isS w6 hS hv e3
        have := hv2.2 hSS
        exact absurd ⟨v, k, hv, g2, fun x => by rw [x] at this; omega, w12 t v k b hS hv g2 hb e3 g3 y⟩ z2
  have hG : GC (drp (st P 2 N (P 2 S)) S) (drp (st R 2 N (P 2 S)) S) g := by
    refine ⟨fun a i ha => ?_, ?_, fun b hb h => ?_, fun b hb h => ?_, ?_, p, fun b hb => ?_, e2⟩
    · unfold drp
      simp only [st_if, hr a i (Or.inl ha)]
    · rw [drp_hi (by omega), drp_hi (by omega), st_ne1 (by decide), st_ne1 (by decide)]
      exact hr 9 0 (Or.inr rfl)
    · have hpf : p b = false := by
        cases hpb : p b with
        | false => rfl
        | true => exact absurd h ((hpq b hb).mp hpb).2
      have h2 := h78 b hb
      rw [hpf] at h2
      rw [drp_hi (by omega), drp_hi (by omega), drp_hi (by omega), drp_hi (by omega), st_ne1 (by decide), st_ne1 (by decide), st_ne1 (by decide), st_ne1 (by decide)]
      exact ⟨h2.1, h2.2⟩
    · rw [drp_hi (by omega), st_ne1 (by decide), (h78 b hb).1]
      by_cases hpb : p b = true
      · rw [if_pos hpb]
      · rw [if_neg hpb]
        rcases Classical.em (P 7 b = 0) with z | z
        · exact z
        · exact absurd ((hpq b hb).mpr ⟨z, h⟩) hpb
    · rw [drp_hi (by omega), drp_hi (by omega), st_ne1 (by decide), st_ne1 (by decide)]
      exact h10
    · rw [drp_hi (by omega), st_ne1 (by decide)]
      exact hpq b hb
  have hW : WInv (drp (st P 2 N (P 2 S)) S) := by
    refine W_rmS hI.w hS hN hSS hp hu (fun t => ?_) (fun t h => ?_) (fun t => ?_) (fun t => ?_) (fun t => ?_) (fun t => ?_) (fun a ha => ?_) (fun t k ht hk => ?_)
    · rw [drp_lo (by omega), st_ne1 (by decide)]; rfl
    · rw [drp_lo (by omega), st_ne1 (by decide), if_neg h]
    · rw [drp_lo (by omega), st_if]
      by_cases w : t = S
      · rw [if_pos w, if_pos w]; rfl
      · rw [if_neg w, if_neg w]
        by_cases y : t = N
        · rw [if_pos ⟨rfl, y⟩, if_pos y]
        · rw [if_neg (by omega), if_neg y]
    · rw [drp_lo (by omega), st_ne1 (by decide)]; rfl
    · rw [drp_lo (by omega), st_ne1 (by decide)]; rfl
    · rw [drp_lo (by omega), st_ne1 (by decide)]; rfl
    · rw [drp_hi (by omega), st_row (by omega)]
    · rw [drp_at ht hk, st_ne1 (by decide)]
  exact ⟨g, _, e.trans hend, hG, GC_inv hW hG⟩
