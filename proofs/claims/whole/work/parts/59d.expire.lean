/-! ===== expire ===== -/
section
variable {P : PSt} {s : RSt} {n : Nat}
/-- a loose snapshot goes, on both sides -/
theorem p_loose (hI : Inv P) (hS : Sim P s) (hd : RSt) {t : Nat} (ht : t < 20) (hSn : isS P t) (h1 : nxc P (nI t) = 1) : ∃ m P' s' hd' N, xX0_removeSnapshot P (nI t) = some (nI m, P') ∧ xX8_removed s hd (nI t) = some (nI m, s', hd') ∧ Inv P' ∧ Sim P' s' ∧ tm P' = tm P ∧ N < 20 ∧ P 2 N = nI t ∧ (∀ j, j < 20 → P 2 j = nI t → j = N) ∧ (∀ i, i ≠ N → i ≠ t → P' 2 i = P 2 i) ∧ ∀ i, i ≠ t → P' 0 i = P 0 i := by
  have hW := hI.w
  obtain ⟨N, hN, hp, hu⟩ := nxc_one h1
  obtain ⟨m, P', e1, hG, hI'⟩ := c_rmSnap hI ht hN hSn hp hu
  have hNt : N ≠ t := by
    intro z
    have hh := pv_isS hW.2.2.2.2.2.1 hN ht hp
    rw [z] at hh
    have := hh.2 hSn
    omega
  have hWQ : WInv (drp (st P 2 N (P 2 t)) t) := by
    refine W_rmS hW ht hN hSn hp hu (fun u => ?_) (fun u hh => ?_) (fun u => ?_) (fun u => ?_) (fun u => ?_) (fun u => ?_) (fun a ha => ?_) (fun u k hu2 hk => ?_)
    · rw [drp_lo (by omega), st_ne1 (by decide)]; rfl
    · rw [drp_lo (by omega), st_ne1 (by decide), if_neg hh]
    · rw [drp_lo (by omega), st_if]
      by_cases w : u = t
      · rw [if_pos w, if_pos w]; rfl
      · rw [if_neg w, if_neg w]
        by_cases y : u = N
        · rw [if_pos ⟨rfl, y⟩, if_pos y]
        · rw [if_neg (by omega), if_neg y]
    · rw [drp_lo (by omega), st_ne1 (by decide)]; rfl
    · rw [drp_lo (by omega), st_ne1 (by decide)]; rfl
    · rw [drp_lo (by omega), st_ne1 (by decide)]; rfl
    · rw [drp_hi (by omega), st_row (by omega)]
    · rw [drp_at hu2 hk, st_ne1 (by decide)]
  obtain ⟨s', hd', e2, hS'⟩ := m_removed ht hS hW hd (sN (Or.inr hSn)) _ (Or.inr ⟨N, hN, hNt, hp, hu, rfl⟩) hWQ hG
  refine ⟨m, P', s', hd', N, e1, e2, hI', hS', ?_, hN, hp, hu, fun i h1 h2 => ?_, fun i h1 => ?_⟩
  · rw [GC_tm hG]
    unfold tm
    rw [drp_hi (by omega), st_row (by decide)]
  · rw [GC_rows hG (by omega), drp_lo (by omega), if_neg h2, st_ne2 h1]
  · rw [GC_rows hG (by omega), drp_lo (by omega), if_neg h1, st_ne1 (by decide)]
theorem m_isLoose (hS : Sim P s) (hW : WInv P) {t : Nat} (ht : t < 20) (hSn : isS P t) : xX8_isLoose s (nI t) = some (if P 4 t = 0 ∧ nxc P (nI t) = 1 then 1 else 0) := by
  have ea : (102 : Int32) + nI t = nI (102 + t) := nI_addE 102 t
  have et := (hS.2.2.1 t ht (sN (Or.inr hSn))).2.2.2.2
  have hle := nxc_le (P := P) (nI t)
  unfold xX8_isLoose
  rw [ea, ix_nI (by omega) (by omega), grd_t, nI_clE (by omega), et, m_nexts hS hW ht, bn1_s]
  by_cases h4 : P 4 t = 0
  · rw [if_pos h4]
    by_cases h1 : nxc P (nI t) = 1
    · rw [h1, if_pos (show nI 1 = 1 from rfl), if_pos ⟨h4, rfl⟩]
    · rw [if_neg (show ¬ nI (nxc P (nI t)) = 1 by rw [L1, nI_inj (by omega) (by omega)]; exact h1), if_neg (fun w => h1 w.2)]
  · rw [if_neg h4, if_neg (fun w => h4 w.1)]
theorem itr_keep {P P' : PSt} {f k N S : Nat} (hp : I_prev P) (hf : f < 20) (hF : isF P f) (hS : S < 20) (hN : N < 20) (eS : itr P (nI f) (k + 1) = nI S) (hpN : P 2 N = nI S) (hu : ∀ j, j < 20 → P 2 j = nI S → j = N) (h2 : ∀ i, i ≠ N → i ≠ S → P' 2 i = P 2 i) : ∀ p, p ≤ k → itr P' (nI f) p = itr P (nI f) p := by
  have hSS : isS P S := (pv_isS hp hN hS hpN).1
  intro p
  induction p with
  | zero => intro _; rfl
  | succ p ih =>
    intro hk
    have e := ih (by omega)
    -- the thing at place p
    have hy : ∃ y, y < 20 ∧ itr P (nI f) p = nI y ∧ (p = 0 → y = f) := by
      rcases Nat.eq_zero_or_pos p with z | z
      · exact ⟨f, hf, by rw [z]; rfl, fun _ => rfl⟩
      · obtain ⟨q, rfl⟩ : ∃ q, p = q + 1 := ⟨p - 1, by omega⟩
        rcases ch_snap hp hf q with w | ⟨y, hy, ey, -⟩
        · have := ch_end w (k + 1) (by omega)
          rw [this] at eS
          exact absurd eS.symm (nI_ne_m1 (by omega))
        · exact ⟨y, hy, ey, fun w => by omega⟩
    obtain ⟨y, hy, ey, y0⟩ := hy
    have en : itr P (nI f) (p + 1) = P 2 y := ch_next hy ey
    have en' : itr P' (nI f) (p + 1) = P' 2 y := ch_next hy (e.trans ey)
    rw [en, en']
    refine h2 y ?_ ?_
    · intro w
      subst w
      have e5 : itr P (nI f) (p + 1) = nI S := en.trans hpN
      have := ch_inj hp hf hS e5 eS
      omega
    · intro w
      subst w
      rcases Nat.eq_zero_or_pos p with z | z
      · have := y0 z
        subst this
        exact sF hSS hF
      · obtain ⟨q, rfl⟩ : ∃ q, p = q + 1 := ⟨p - 1, by omega⟩
        have := ch_inj hp hf hS ey eS
        omega
theorem q_exp {f nm : Nat} (hf : f < 20) (hnm : nm ≤ 20) {ev : Int32} (hev : ¬ ev = 0) (nw : RSt) (ow : Int32) : ∀ (K m : Nat) (P : PSt) (s hd : RSt) (c : Int32), K < m → K ≤ 19 → Inv P → Sim P s → isF P f → (∀ j, j < K → ∃ x, x < 20 ∧ itr P (nI f) (j + 1) = nI x ∧ nw j = nI x) → ∃ r P' s' hd', xX0_removeExpired_58 m (nI f) (nI nm) ev c (nI K + (-1)) P = some (r, P') ∧ xX8_expire_55 m (nI nm) ev c (nI K + (-1)) s hd nw ow = some (r, s', hd', nw, ow) ∧ Inv P' ∧ Sim P' s' ∧ tm P' = tm P := by
  intro K
  induction K with
  | zero =>
    intro m P s hd c hm _ hI hS _ _
    obtain ⟨m, rfl⟩ : ∃ m', m = m' + 1 := ⟨m - 1, by omega⟩
    have hc : nI 0 + (-1) < nI nm := by
      show m1 < nI nm
      rw [m1_lt (by omega)]
      trivial
    rw [xX0_removeExpired_58, xX8_expire_55, if_pos hc, if_pos hc]
    exact ⟨_, _, _, _, rfl, rfl, hI, hS, rfl⟩
  | succ k ih =>
    intro m P s hd c hm hK hI hS hF hx
    obtain ⟨m, rfl⟩ : ∃ m', m = m' + 1 := ⟨m - 1, by omega⟩
    rw [nI_dec]
    by_cases hc : nI k < nI nm
    · rw [xX0_removeExpired_58, xX8_expire_55, if_pos hc, if_pos hc]
      exact ⟨_, _, _, _, rfl, rfl, hI, hS, rfl⟩
    · have hW := hI.w
      obtain ⟨x, hx20, ex, en⟩ := hx k (by omega)
      have hsx : isS P x := by
        rcases ch_snap hW.2.2.2.2.2.1 hf k with w | ⟨y, hy, ey, hsy⟩
        · rw [w] at ex; exact absurd ex.symm (nI_ne_m1 (by omega))
        · have := nI_lt_inj (by omega) (by omega) (ey.symm.trans ex)
          subst this
          exact hsy
      have e22 : (22 : Int32) + nI x = nI (22 + x) := nI_addE 22 x
      have m22 := (hS.2.2.1 x hx20 (sN (Or.inr hsx))).1
      have hx' : ∀ j, j < k → ∃ x, x < 20 ∧ itr P (nI f) (j + 1) = nI x ∧ nw j = nI x := fun j hj => hx j (by omega)
      rw [xX0_removeExpired_58, xX8_expire_55, if_neg hc, if_neg hc, c_inChain (by omega), bn1_s, itr_s, ex, c_madeOf, bn1_s, rd_nI (by decide) hx20, decide_eq_true (show ¬ ev = 0 from hev), grd_t, ix_nI (by omega) (by omega), grd_t, nI_clE (by omega), en, e22, ix_nI (by omega) (by omega), grd_t, grd_t, nI_clE (by omega), m22, c_isLoose hx20 hsx, bn1_s, m_isLoose hS hW hx20 hsx, bn1_s]
      by_cases hq : P 1 x - P 1 x / ev * ev = 0
      · rw [if_pos hq, if_pos hq]
        exact ih m P s hd c (by omega) (by omega) hI hS hF hx'
      · rw [if_neg hq, if_neg hq, ite10, ite10]
        by_cases hl : P 4 x = 0 ∧ nxc P (nI x) = 1
        · rw [if_pos hl, if_pos hl]
          obtain ⟨g, P', s', hd', N, e1, e2, hI', hS', et, hN, hpN, hu, h2, h0⟩ := p_loose hI hS hd hx20 hsx hl.2
          have hk := itr_keep hW.2.2.2.2.2.1 hf hF hx20 hN ex hpN hu h2
          have hfx : f ≠ x := by
            intro w
            subst w
            exact sF hsx hF
          have hF' : isF P' f := by unfold isF; rw [h0 f hfx]; exact hF
          rw [e1, bn2_s, e2, bn3_s]
          obtain ⟨r, P2, s2, hd2, g1, g2, g3, g4, g5⟩ := ih m P' s' hd' (c + 1) (by omega) (by omega) hI' hS' hF' (fun j hj => by
            obtain ⟨y, hy, ey, eny⟩ := hx' j hj
            exact ⟨y, hy, (hk (j + 1) (by omega)).trans ey, eny⟩)
          exact ⟨r, P2, s2, hd2, g1, g2, g3, g4, g5.trans et⟩
        · rw [if_neg hl, if_neg hl]
          exact ih m P s hd c (by omega) (by omega) hI hS hF hx'
theorem c_in3 {α : Type} {y lo hi : Int32} (A B : α) : (if y < lo then A else if hi < y then A else B) = if (lo ≤ y ∧ y ≤ hi) then B else A := by
  by_cases h1 : y < lo
  · rw [if_pos h1, if_neg]
    rw [Int32.lt_iff_toInt_lt] at h1
    rw [Int32.le_iff_toInt_le]
    omega
  · rw [if_neg h1]
    by_cases h2 : hi < y
    · rw [if_pos h2, if_neg]
      rw [Int32.lt_iff_toInt_lt] at h2
      rw [Int32.le_iff_toInt_le, Int32.le_iff_toInt_le]
      omega
    · rw [if_neg h2, if_pos]
      rw [Int32.lt_iff_toInt_lt] at h1 h2
      rw [Int32.le_iff_toInt_le, Int32.le_iff_toInt_le]
      omega
theorem c_in4 {α : Type} {y lo hi : Int32} (A B : α) : (if y < lo then A else if y ≤ hi then B else A) = if (lo ≤ y ∧ y ≤ hi) then B else A := by
  rw [← c_in3]
  by_cases h1 : y < lo
  · rw [if_pos h1, if_pos h1]
  · rw [if_neg h1, if_neg h1]
    by_cases h2 : y ≤ hi
    · rw [if_pos h2, if_neg]
      rw [Int32.le_iff_toInt_le] at h2
      rw [Int32.lt_iff_toInt_lt]
      omega
    · rw [if_neg h2, if_pos]
      rw [Int32.le_iff_toInt_le] at h2
      rw [Int32.lt_iff_toInt_lt]
      omega
theorem q_expire (h : Good P s n) (hd nw : RSt) (ow x y z : Int32) : ∃ r P' s' hd' nw' ow', xX7_expire P x y z = some (r, P') ∧ xX8_expire s hd nw ow x y z = some (r, s', hd', nw', ow') ∧ Good P' s' (n + 1) := by
  have hg := h.up (Nat.le_succ n)
  obtain ⟨hI, hS, htm⟩ := h
  have hW := hI.w
  unfold xX7_expire xX8_expire xX0_removeExpired
  rw [c_in4 (y := z) (lo := 1) (hi := 100), c_in3 (y := y) (lo := 0) (hi := 20), m_in, bn1_s, ite10, m_in, bn1_s, ite10]
  by_cases hy : (0 : Int32) ≤ y ∧ y ≤ 20
  · rw [if_pos hy, if_pos hy]
    by_cases hz : (1 : Int32) ≤ z ∧ z ≤ 100
    · rw [if_pos hz, if_pos hz, c_refA, bn1_s, m_asked hS, bn1_s]
      by_cases hr : refA P x 0 = 0
      · rw [if_pos hr, if_pos hr]
        obtain ⟨f, hf, rfl, hkf, hu⟩ := refA_ok hr
        have hF := isF_of hu
        obtain ⟨nm, hnm, rfl⟩ := in_ex (n := 20) (by decide) hy
        obtain ⟨nw', e1, hnw⟩ := m_looksOwned hS hW hf hF nw ow
        obtain ⟨p1, -, -, p4⟩ := own_pref hW hf hF
        have hz0 : ¬ z = 0 := by
          intro w
          rw [w] at hz
          exact absurd hz.1 (by decide)
        rw [c_ownCount, bn1_s, e1, bn2_s]
        obtain ⟨r, P', s', hd', g1, g2, g3, g4, g5⟩ := q_exp hf hnm hz0 nw' (nI (owc P (nI f))) (owc P (nI f)) 600 P s hd 0 (by omega) (by omega) hI hS hF (fun j hj => by
          obtain ⟨v, hv, ev, -, -⟩ := p1 j hj
          exact ⟨v, hv, ev, (hnw j hj).trans ev⟩)
        rw [show nI (owc P (nI f)) - 1 = nI (owc P (nI f)) + (-1) from Int32.sub_eq_add_neg _ _, g1, g2, bn2_s]
        exact ⟨r, P', s', hd', _, _, rfl, rfl, g3, g4, by omega⟩
      · rw [if_neg hr, if_neg hr, bn2_s]
        exact ⟨_, _, _, _, _, _, rfl, rfl, hg⟩
    · rw [if_neg hz, if_neg hz, bn2_s]
      exact ⟨_, _, _, _, _, _, rfl, rfl, hg⟩
  · rw [if_neg hy, if_neg hy, bn2_s]
    exact ⟨_, _, _, _, _, _, rfl, rfl, hg⟩
end
