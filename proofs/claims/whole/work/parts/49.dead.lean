/-! ===== the dead: what the previous holds and this one doesn't ===== -/
theorem cnt_sl {c : Nat → Int32} {N : Nat} (h1 : ∀ k, k < N → c k = m1 ∨ ∃ b, b < 96 ∧ c k = nI b) (h2 : ∀ k k' b, k < N → k' < N → b < 96 → c k = nI b → c k' = nI b → k = k') : ∀ K, K ≤ N → cnt (fun k => decide (c k ≠ m1)) K = cnt (fun b => decide (0 < cnt (fun k => decide (c k = nI b)) K)) 96
  | 0, _ => by
    refine Eq.trans rfl (Eq.symm (cnt_zero.mpr (fun b _ => ?_)))
    rw [decide_eq_false_iff_not]
    show ¬ 0 < 0
    omega
  | K + 1, hK => by
    rw [cnt_s, cnt_sl h1 h2 K (by omega)]
    rcases h1 K (by omega) with z | ⟨b0, hb0, z⟩
    · rw [if_neg (by rw [decide_eq_true_eq]; exact fun y => y z), Nat.add_zero]
      refine cnt_cong (fun b hb => ?_)
      have e := cnt_s (fun k => decide (c k = nI b)) K
      rw [if_neg (by rw [decide_eq_true_eq, z]; exact Ne.symm (nI_ne_m1 (by omega)))] at e
      rw [e]
      rfl
    · rw [if_pos (by rw [decide_eq_true_eq, z]; exact nI_ne_m1 (by omega))]
      refine (cnt_add1 hb0 (fun b hb hne => ?_) ?_ ?_).symm
      · have e := cnt_s (fun k => decide (c k = nI b)) K
        rw [if_neg (by rw [decide_eq_true_eq, z]; exact fun y => hne (nI_lt_inj (by omega) (by omega) y).symm)] at e
        rw [e]
        rfl
      · have e := cnt_s (fun k => decide (c k = nI b0)) K
        rw [if_pos (decide_eq_true z)] at e
        rw [decide_eq_true_eq, e]
        omega
      · rw [decide_eq_false_iff_not]
        intro y
        rw [cnt_pos] at y
        obtain ⟨k, hk, y⟩ := y
        have := h2 k K b0 (by omega) (by omega) hb0 (of_decide_eq_true y) z
        omega
section
variable {P : PSt} {s : RSt} {n : Nat}
def dd (P : PSt) (t k : Nat) : Int32 := if bi P (P 2 t) (nI k) = P 6 (t * 12 + k) then m1 else bi P (P 2 t) (nI k)
theorem c_deadIn {t k : Nat} (ht : t < 20) (hk : k < 12) : xX6_deadIn P (nI t) (nI k) = some (dd P t k) := by
  unfold xX6_deadIn dd
  rw [c_prevOf, bn1_s, rd_nI (by decide) ht, c_blockIn, bn1_s, c_blockIn, bn1_s, bi_nI ht hk]
  by_cases z : bi P (P 2 t) (nI k) = P 6 (t * 12 + k)
  · rw [if_pos z, if_pos z]
  · rw [if_neg z, if_neg z]
theorem dd_none {t k : Nat} (h : P 2 t = m1) : dd P t k = m1 := by
  unfold dd
  rw [h, bi_m1]
  split <;> rfl
theorem dd_some {t u k : Nat} (hu : u < 20) (hk : k < 12) (h : P 2 t = nI u) : dd P t k = if P 6 (u * 12 + k) = P 6 (t * 12 + k) then m1 else P 6 (u * 12 + k) := by
  unfold dd
  rw [h, bi_nI hu hk]
theorem dd_hl (hW : WInv P) {t k b : Nat} (ht : t < 20) (hk : k < 12) (hb : b < 96) (h : dd P t k = nI b) : ∃ u, u < 20 ∧ P 2 t = nI u ∧ hl P u k b ∧ ¬ hl P t k b := by
  rcases hW.2.2.2.2.2.1 t ht with z | ⟨u, hu, z, -⟩
  · rw [dd_none z] at h
    exact absurd h.symm (nI_ne_m1 (by omega))
  · rw [dd_some hu hk z] at h
    by_cases e : P 6 (u * 12 + k) = P 6 (t * 12 + k)
    · rw [if_pos e] at h
      exact absurd h.symm (nI_ne_m1 (by omega))
    · rw [if_neg e] at h
      exact ⟨u, hu, z, h, fun y => e (h.trans (show P 6 (t * 12 + k) = nI b from y).symm)⟩
theorem dd_two (hW : WInv P) {t : Nat} (ht : t < 20) : ∀ k, k < 12 → dd P t k = m1 ∨ ∃ b, b < 96 ∧ dd P t k = nI b := by
  intro k hk
  rcases hW.2.2.2.2.2.1 t ht with z | ⟨u, hu, z, -⟩
  · exact Or.inl (dd_none z)
  · rw [dd_some hu hk z]
    by_cases e : P 6 (u * 12 + k) = P 6 (t * 12 + k)
    · rw [if_pos e]; exact Or.inl rfl
    · rw [if_neg e]
      rcases hW.2.2.2.2.2.2.2.1 u k hu hk with z | ⟨b, hb, z, -⟩
      · exact Or.inl z
      · exact Or.inr ⟨b, hb, z⟩
theorem dd_inj (hW : WInv P) {t : Nat} (ht : t < 20) : ∀ k k' b, k < 12 → k' < 12 → b < 96 → dd P t k = nI b → dd P t k' = nI b → k = k' := by
  intro k k' b hk hk' hb z z'
  obtain ⟨u, hu, -, h1, -⟩ := dd_hl hW ht hk hb z
  obtain ⟨u', hu', -, h1', -⟩ := dd_hl hW ht hk' hb z'
  exact hW.2.2.2.2.2.2.2.2.2.1 u u' k k' b hu hu' hk hk' hb h1 h1'
def ddb (P : PSt) (t b : Nat) : Bool := decide (0 < cnt (fun k => decide (dd P t k = nI b)) 12)
theorem ddb_ex {t b : Nat} : ddb P t b = true ↔ ∃ k, k < 12 ∧ dd P t k = nI b := by
  unfold ddb
  rw [decide_eq_true_eq, cnt_pos]
  constructor
  · rintro ⟨k, hk, z⟩; exact ⟨k, hk, of_decide_eq_true z⟩
  · rintro ⟨k, hk, z⟩; exact ⟨k, hk, decide_eq_true z⟩
theorem ddb_iff (hW : WInv P) {t u b : Nat} (ht : t < 20) (hu : u < 20) (hb : b < 96) (h : P 2 t = nI u) : ddb P t b = true ↔ hdb P u b = true ∧ ¬ hdb P t b = true := by
  rw [ddb_ex, hdb_iff, hdb_iff]
  constructor
  · rintro ⟨k, hk, z⟩
    obtain ⟨u', hu', e, h1, h2⟩ := dd_hl hW ht hk hb z
    have : u' = u := nI_lt_inj (by omega) (by omega) (e.symm.trans h)
    subst this
    refine ⟨⟨k, hk, h1⟩, ?_⟩
    rintro ⟨k', hk', z'⟩
    have := hW.2.2.2.2.2.2.2.2.2.1 t u' k' k b ht hu hk' hk hb z' h1
    subst this
    exact h2 z'
  · rintro ⟨⟨k, hk, z⟩, h2⟩
    refine ⟨k, hk, ?_⟩
    unfold hl at z
    rw [dd_some hu hk h, if_neg (fun e => h2 ⟨k, hk, e.symm.trans z⟩), z]
theorem m_isDead (hS : Sim P s) (hW : WInv P) {t b : Nat} (ht : t < 20) (hb : b < 96) (h : hs P t) : xX8_isDead s (nI t) (nI b) = some (if ddb P t b then 1 else 0) := by
  have e42 := (hS.2.2.1 t ht (sN h)).2.1
  have a42 : (42 : Int32) + nI t = nI (42 + t) := nI_addE 42 t
  unfold xX8_isDead
  rw [a42, ix_nI (by omega) (by omega), grd_t, nI_clE (by omega), e42, grd_t]
  rcases hW.2.2.2.2.2.1 t ht with z | ⟨u, hu, z, -⟩
  · rw [if_pos z, if_neg]
    rw [ddb_ex]
    rintro ⟨k, hk, y⟩
    rw [dd_none z] at y
    exact nI_ne_m1 (by omega) y.symm
  · have hi := ddb_iff hW ht hu hb z
    rw [z, if_neg (nI_ne_m1 (by omega)), m_isHeld hS hW hu hb, m_isHeld hS hW ht hb, bn1_s, bn1_s, ite10, ite10]
    by_cases h1 : hdb P u b = true
    · by_cases h2 : hdb P t b = true
      · rw [if_pos h1, if_pos h2, if_neg (fun y => (hi.mp y).2 h2)]
      · rw [if_pos h1, if_neg h2, if_pos (hi.mpr ⟨h1, h2⟩)]
    · rw [if_neg h1, if_neg (fun y => h1 (hi.mp y).1)]
theorem ddb_sz (hW : WInv P) {t b : Nat} (ht : t < 20) (hb : b < 96) (h : ddb P t b = true) : P 7 b ≠ 0 ∧ 1 ≤ bt1 P b := by
  rw [ddb_ex] at h
  obtain ⟨k, hk, z⟩ := h
  obtain ⟨u, hu, -, h1, -⟩ := dd_hl hW ht hk hb z
  have := hl_sz hW.2.2.2.2.2.2.2.1 hu hk hb h1
  exact ⟨by rw [sz_ne]; omega, ((hW.2.2.2.2.2.2.2.2.1 b hb).2.2 (by omega)).1⟩
/-! the chain, by the reference -/
theorem m_chained (hS : Sim P s) (hW : WInv P) {t k : Nat} (ht : t < 20) (h : hs P t) (hk : k ≤ 20) : xX8_chained s (nI t) (nI k) = some (itr P (nI t) (k + 1)) := by
  have e42 := (hS.2.2.1 t ht (sN h)).2.1
  have a42 : (42 : Int32) + nI t = nI (42 + t) := nI_addE 42 t
  unfold xX8_chained
  rw [a42, ix_nI (by omega) (by omega), grd_t, nI_clE (by omega), e42]
  have e1 : P 2 t = itr P (nI t) (0 + 1) := (ch_next (P := P) (x := nI t) (i := 0) ht rfl).symm
  rw [e1]
  have go : ∀ d m i, i + d = k → d < m → xX8_chained_13 s m (nI k) (itr P (nI t) (i + 1)) (nI i) = some (itr P (nI t) (k + 1)) := by
    intro d
    induction d with
    | zero =>
      intro m i hi hm
      obtain ⟨m, rfl⟩ : ∃ m', m = m' + 1 := ⟨m - 1, by omega⟩
      have : i = k := by omega
      subst this
      rw [xX8_chained_13, if_pos (by rw [nI_leE (by omega) (by omega)]; omega)]
    | succ d ih =>
      intro m i hi hm
      obtain ⟨m, rfl⟩ : ∃ m', m = m' + 1 := ⟨m - 1, by omega⟩
      rw [xX8_chained_13, if_neg (by rw [nI_leE (by omega) (by omega)]; omega)]
      rcases ch_snap hW.2.2.2.2.2.1 ht i with z | ⟨u, hu, z, sx⟩
      · rw [if_pos z, z, ch_end z (k + 1) (by omega)]
      · have e := (hS.2.2.1 u hu (sN (Or.inr sx))).2.1
        have a : (42 : Int32) + nI u = nI (42 + u) := nI_addE 42 u
        rw [if_neg (by rw [z]; exact nI_ne_m1 (by omega)), z, a, ix_nI (by omega) (by omega), grd_t, nI_clE (by omega), e, ← ch_next hu z, show nI i + 1 = nI (i + 1) from nI_succE i]
        exact ih m (i + 1) (by omega) (by omega)
  exact go k 600 0 (by omega) (by omega)
theorem q_deadList (h : Good P s n) (x y : Int32) : ∃ r, xX7_deadList P x y = some r ∧ xX8_deadList s x y = some r := by
  obtain ⟨hI, hS, -⟩ := h
  have hW := hI.w
  unfold xX7_deadList xX6_sizeOfDeadList xX8_deadList
  rw [bn1_id, c_holder hI.1, m_hasSlots hS, bn1_s, bn1_s, ite10, ite10]
  by_cases hk : hsk (rd 20 (P 0) m1 x) = true
  rotate_left
  · rw [if_neg hk, if_neg hk]
    exact ⟨_, rfl, rfl⟩
  rw [if_pos hk, if_pos hk, m_in, bn1_s, ite10]
  obtain ⟨t, ht, rfl, hst⟩ := hsk_ok hk
  by_cases hy : 0 ≤ y ∧ y ≤ 19
  rotate_left
  · rw [if_neg hy]
    refine ⟨_, ?_, rfl⟩
    unfold xX4_inChain
    rw [show (20 : Int32) = nI (19 + 1) from L20, c_in2 (by decide), if_neg (show ¬ (0 ≤ y ∧ y ≤ nI 19) from hy), bn1_s]
    rfl
  rw [if_pos hy]
  obtain ⟨k, hk19, rfl⟩ := in_ex (n := 19) (by decide) hy
  have ek : nI k + 1 = nI (k + 1) := nI_succE k
  rw [ek, c_inChain (by omega), m_chained hS hW ht hst (by omega), m_chained hS hW ht hst (by omega), bn1_s, bn1_s, bn1_s, bn1_s, itr_s]
  rcases ch_snap hW.2.2.2.2.2.1 ht k with z | ⟨a, ha, z, sa⟩
  · rw [z, if_pos rfl]
    exact ⟨_, rfl, rfl⟩
  have ea := hS.2.2.1 a ha (sN (Or.inr sa))
  have eam := ea.1
  rw [ch_next ha z, z, if_neg (nI_ne_m1 (by omega))]
  unfold xX6_sizeOfDeadList_24
  rw [if_neg (nI_ne_m1 (by omega)), c_prevOf, bn1_s, rd_nI (by decide) ha, c_madeOf, bn1_s]
  generalize hw : rd 20 (P 1) 0 (P 2 a) = w
  have hsum := sum_sl (F := fun b => if P 1 a < P 8 b then (0 : Int64) else if P 8 b ≤ w then 0 else (P 7 b).toInt64) (dd_two hW ht) (dd_inj hW ht) 12 (by omega)
  refine ⟨_, loop0 (fun m i r => xX6_sizeOfDeadList_57 P m (nI t) (nI a) w r (nI i)) (fun i => sumL (fun k => if dd P t k = m1 then 0 else (fun b => if P 1 a < P 8 b then (0 : Int64) else if P 8 b ≤ w then 0 else (P 7 b).toInt64) (dd P t k).toNatClampNeg) i) _ 12 600 (by decide) ?_ (fun m => by
    simp only [xX6_sizeOfDeadList_57]
    simp (disch := omega) only [L0, L1, L2, L3, L4, L5, L8, L9, L10, L11, L12, L19, L20, L22, L40, L42, L60, L62, L82, L95, L96, L100, L102, L122, L240, L256, L362, L458, L554, L1000000000, L100000, Lm1, nI_addE, nI_mulE, nI_inj, nI_ltE, nI_leE, nI_clE, nI_m1, m1_nI, m1_lt, m1_le, nI_lt_m1, nI_le_m1, ix_nI, dT_le, dF_le, dT_lt, dF_lt, dT_eq, dF_eq, iT, iF, grd_t, lt1_s, bn1_s, bn2_s, bn3_s, bn4_s, bn5_s, nI_add0]
    rfl), ?_⟩
  · intro m k hk
    simp only [xX6_sizeOfDeadList_57, c_deadIn ht hk, c_birthOf, c_madeOf, rd_nI (show 20 < 2147483648 by decide) ha, c_sizeOf, sumL_s]
    rcases dd_two hW ht k hk with z | ⟨b, hb, z⟩
    · rw [z]
      simp (disch := omega) only [L0, L1, L2, L3, L4, L5, L8, L9, L10, L11, L12, L19, L20, L22, L40, L42, L60, L62, L82, L95, L96, L100, L102, L122, L240, L256, L362, L458, L554, L1000000000, L100000, Lm1, nI_addE, nI_mulE, nI_inj, nI_ltE, nI_leE, nI_clE, nI_m1, m1_nI, m1_lt, m1_le, nI_lt_m1, nI_le_m1, ix_nI, dT_le, dF_le, dT_lt, dF_lt, dT_eq, dF_eq, iT, iF, grd_t, lt1_s, bn1_s, bn2_s, bn3_s, bn4_s, bn5_s, nI_add0, eq_self_iff_true, L64_0]
    · rw [z]
      by_cases y1 : P 1 a < P 8 b
      · simp (disch := omega) only [L0, L1, L2, L3, L4, L5, L8, L9, L10, L11, L12, L19, L20, L22, L40, L42, L60, L62, L82, L95, L96, L100, L102, L122, L240, L256, L362, L458, L554, L1000000000, L100000, Lm1, nI_addE, nI_mulE, nI_inj, nI_ltE, nI_leE, nI_clE, nI_m1, m1_nI, m1_lt, m1_le, nI_lt_m1, nI_le_m1, ix_nI, dT_le, dF_le, dT_lt, dF_lt, dT_eq, dF_eq, iT, iF, grd_t, lt1_s, bn1_s, bn2_s, bn3_s, bn4_s, bn5_s, nI_add0, rd_nI, y1, L64_0]
      · by_cases y2 : P 8 b ≤ w
        · simp (disch := omega) only [L0, L1, L2, L3, L4, L5, L8, L9, L10, L11, L12, L19, L20, L22, L40, L42, L60, L62, L82, L95, L96, L100, L102, L122, L240, L256, L362, L458, L554, L1000000000, L100000, Lm1, nI_addE, nI_mulE, nI_inj, nI_ltE, nI_leE, nI_clE, nI_m1, m1_nI, m1_lt, m1_le, nI_lt_m1, nI_le_m1, ix_nI, dT_le, dF_le, dT_lt, dF_lt, dT_eq, dF_eq, iT, iF, grd_t, lt1_s, bn1_s, bn2_s, bn3_s, bn4_s, bn5_s, nI_add0, rd_nI, y1, y2, L64_0]
        · simp (disch := omega) only [L0, L1, L2, L3, L4, L5, L8, L9, L10, L11, L12, L19, L20, L22, L40, L42, L60, L62, L82, L95, L96, L100, L102, L122, L240, L256, L362, L458, L554, L1000000000, L100000, Lm1, nI_addE, nI_mulE, nI_inj, nI_ltE, nI_leE, nI_clE, nI_m1, m1_nI, m1_lt, m1_le, nI_lt_m1, nI_le_m1, ix_nI, dT_le, dF_le, dT_lt, dF_lt, dT_eq, dF_eq, iT, iF, grd_t, lt1_s, bn1_s, bn2_s, bn3_s, bn4_s, bn5_s, nI_add0, rd_nI, y1, y2]
  · rw [hsum]
    refine loop0 (fun m i r => xX8_deadList_55 s m (nI t) (nI a) (P 2 a) r (nI i)) (fun i => sumL (fun b => if 0 < cnt (fun k => decide (dd P t k = nI b)) 12 then (fun b => if P 1 a < P 8 b then (0 : Int64) else if P 8 b ≤ w then 0 else (P 7 b).toInt64) b else 0) i) _ 96 600 (by decide) ?_ ?_
    · intro m b hb
      simp only [xX8_deadList_55, m_isDead hS hW ht hb hst, xX8_deadList_130, sumL_s]
      cases hd : ddb P t b with
      | false =>
        have hv : (if 0 < cnt (fun k => decide (dd P t k = nI b)) 12 then (if P 1 a < P 8 b then (0 : Int64) else if P 8 b ≤ w then 0 else (P 7 b).toInt64) else 0) = 0 := if_neg (fun y => by unfold ddb at hd; rw [decide_eq_false_iff_not] at hd; exact hd y)
        rw [hv]
        simp (disch := omega) only [L0, L1, L2, L3, L4, L5, L8, L9, L10, L11, L12, L19, L20, L22, L40, L42, L60, L62, L82, L95, L96, L100, L102, L122, L240, L256, L362, L458, L554, L1000000000, L100000, Lm1, nI_addE, nI_mulE, nI_inj, nI_ltE, nI_leE, nI_clE, nI_m1, m1_nI, m1_lt, m1_le, nI_lt_m1, nI_le_m1, ix_nI, dT_le, dF_le, dT_lt, dF_lt, dT_eq, dF_eq, iT, iF, grd_t, lt1_s, bn1_s, bn2_s, bn3_s, bn4_s, bn5_s, nI_add0, Bool.false_eq_true, if_false, L64_0]
      | true =>
        have hv : (if 0 < cnt (fun k => decide (dd P t k = nI b)) 12 then (if P 1 a < P 8 b then (0 : Int64) else if P 8 b ≤ w then 0 else (P 7 b).toInt64) else 0) = (if P 1 a < P 8 b then (0 : Int64) else if P 8 b ≤ w then 0 else (P 7 b).toInt64) := if_pos (by unfold ddb at hd; rw [decide_eq_true_eq] at hd; exact hd)
        rw [hv]
        obtain ⟨hz, hb1⟩ := ddb_sz hW ht hb hd
        have e7 := hS.2.2.2.2.1 b hb
        have e8 := hS.2.2.2.2.2 b hb hz
        by_cases y1 : P 1 a < P 8 b
        · simp (disch := omega) only [L0, L1, L2, L3, L4, L5, L8, L9, L10, L11, L12, L19, L20, L22, L40, L42, L60, L62, L82, L95, L96, L100, L102, L122, L240, L256, L362, L458, L554, L1000000000, L100000, Lm1, nI_addE, nI_mulE, nI_inj, nI_ltE, nI_leE, nI_clE, nI_m1, m1_nI, m1_lt, m1_le, nI_lt_m1, nI_le_m1, ix_nI, dT_le, dF_le, dT_lt, dF_lt, dT_eq, dF_eq, iT, iF, grd_t, lt1_s, bn1_s, bn2_s, bn3_s, bn4_s, bn5_s, nI_add0, e8, eam, y1, if_true, L64_0]
        · rcases hW.2.2.2.2.2.1 a ha with q | ⟨c, hc, q, sc, -⟩
          · have y2 : ¬ P 8 b ≤ w := by
              rw [← hw, q, rd_m1, Int32.le_iff_toInt_le, show (0 : Int32).toInt = 0 by decide]
              unfold bt1 at hb1
              omega
            simp (disch := omega) only [L0, L1, L2, L3, L4, L5, L8, L9, L10, L11, L12, L19, L20, L22, L40, L42, L60, L62, L82, L95, L96, L100, L102, L122, L240, L256, L362, L458, L554, L1000000000, L100000, Lm1, nI_addE, nI_mulE, nI_inj, nI_ltE, nI_leE, nI_clE, nI_m1, m1_nI, m1_lt, m1_le, nI_lt_m1, nI_le_m1, ix_nI, dT_le, dF_le, dT_lt, dF_lt, dT_eq, dF_eq, iT, iF, grd_t, lt1_s, bn1_s, bn2_s, bn3_s, bn4_s, bn5_s, nI_add0, e7, e8, eam, y1, y2, q, if_true, if_false, eq_self_iff_true]
          · have ec := (hS.2.2.1 c hc (sN (Or.inr sc))).1
            have hw2 : P 1 c = w := by rw [← hw, q, rd_nI (by decide) hc]
            rw [hw2] at ec
            by_cases y2 : P 8 b ≤ w
            · simp (disch := omega) only [L0, L1, L2, L3, L4, L5, L8, L9, L10, L11, L12, L19, L20, L22, L40, L42, L60, L62, L82, L95, L96, L100, L102, L122, L240, L256, L362, L458, L554, L1000000000, L100000, Lm1, nI_addE, nI_mulE, nI_inj, nI_ltE, nI_leE, nI_clE, nI_m1, m1_nI, m1_lt, m1_le, nI_lt_m1, nI_le_m1, ix_nI, dT_le, dF_le, dT_lt, dF_lt, dT_eq, dF_eq, iT, iF, grd_t, lt1_s, bn1_s, bn2_s, bn3_s, bn4_s, bn5_s, nI_add0, e7, e8, eam, y1, y2, q, ec, if_true, if_false, L64_0]
            · simp (disch := omega) only [L0, L1, L2, L3, L4, L5, L8, L9, L10, L11, L12, L19, L20, L22, L40, L42, L60, L62, L82, L95, L96, L100, L102, L122, L240, L256, L362, L458, L554, L1000000000, L100000, Lm1, nI_addE, nI_mulE, nI_inj, nI_ltE, nI_leE, nI_clE, nI_m1, m1_nI, m1_lt, m1_le, nI_lt_m1, nI_le_m1, ix_nI, dT_le, dF_le, dT_lt, dF_lt, dT_eq, dF_eq, iT, iF, grd_t, lt1_s, bn1_s, bn2_s, bn3_s, bn4_s, bn5_s, nI_add0, e7, e8, eam, y1, y2, q, ec, if_true, if_false, L64_0]
    · intro m
      simp only [xX8_deadList_55]
      simp (disch := omega) only [L0, L1, L2, L3, L4, L5, L8, L9, L10, L11, L12, L19, L20, L22, L40, L42, L60, L62, L82, L95, L96, L100, L102, L122, L240, L256, L362, L458, L554, L1000000000, L100000, Lm1, nI_addE, nI_mulE, nI_inj, nI_ltE, nI_leE, nI_clE, nI_m1, m1_nI, m1_lt, m1_le, nI_lt_m1, nI_le_m1, ix_nI, dT_le, dF_le, dT_lt, dF_lt, dT_eq, dF_eq, iT, iF, grd_t, lt1_s, bn1_s, bn2_s, bn3_s, bn4_s, bn5_s, nI_add0]
end
