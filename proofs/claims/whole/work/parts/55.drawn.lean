/-! ===== image, back, drawn ===== -/
theorem c_copyFrom (O P : PSt) : ∃ P', xX4_copyFrom O P = some P' ∧ PEq O P' := by
  refine ⟨_, rfl, ?_, ?_, ?_, ?_, ?_⟩
  · intro a t ha ht
    have hin : ∀ (f g : Nat → Int32), va_cpy f g 0 0 20 t = f t := fun f g => by
      rw [pk_cpy_in (by omega) (by omega)]; congr 1; omega
    rcases (show a = 0 ∨ a = 1 ∨ a = 2 ∨ a = 3 ∨ a = 4 ∨ a = 5 by omega) with h | h | h | h | h | h <;> (subst h; simp [stR, st, hin])
  · intro t k ht hk
    have hin : ∀ (f g : Nat → Int32), va_cpy f g 0 0 240 (t * 12 + k) = f (t * 12 + k) := fun f g => by
      rw [pk_cpy_in (by omega) (by omega)]; congr 1; omega
    simp [stR, st, hin]
  · intro b hb
    have hin : ∀ (f g : Nat → Int32), va_cpy f g 0 0 96 b = f b := fun f g => by
      rw [pk_cpy_in (by omega) (by omega)]; congr 1; omega
    constructor
    · simp [stR, st, hin]
    · simp [stR, st, hin]
  · simp [stR, st, upd]
  · simp [stR, st, upd]
section
variable {P : PSt} {s : RSt} {n : Nat}
/-- one row laid over another, place by place -/
theorem cp_loop {ρ : Type} (f : RSt) (L : Nat → Nat → RSt → Option ρ) (R : RSt → Option ρ) (g0 : RSt) (hs : ∀ m i g, i < 554 → L (m + 1) i g = L m (i + 1) (upd g i (f i))) (he : ∀ m g, L (m + 1) 554 g = R g) : ∃ g, L 600 0 g0 = R g ∧ ∀ j, j < 554 → g j = f j := by
  have h := loopI L (fun i g => ∀ j, j < i → g j = f j) 554 (fun m i g hi hI => ⟨upd g i (f i), hs m i g hi, fun j hj => by
    by_cases e : j = i
    · rw [e, upd_eq]
    · rw [upd_ne e]; exact hI j (by omega)⟩) 554 600 0 g0 (by omega) (by omega) (fun j hj => by omega)
  obtain ⟨m, g, e, hg⟩ := h
  exact ⟨g, e.trans (he m g), hg⟩
theorem q_image (h : Good P s n) (K : PSt) (im : RSt) (hi hm : Int32) : ∃ r K' im', xX7_image P K hi = some (r, K', 1) ∧ xX8_image s im hm = some (r, im', 1) ∧ Good K' im' n := by
  obtain ⟨K', e1, h1⟩ := c_copyFrom P K
  obtain ⟨im', e2, h2⟩ := cp_loop s (fun m i g => xX8_image_2 s m (nI i) g hm) (fun g => bn1 (xX8_things s) (fun v4 => some (v4, g, (1 : Int32)))) im (fun m i g hi => by
    show xX8_image_2 s (m + 1) (nI i) g hm = _
    rw [xX8_image_2, if_neg (by rw [L554, nI_leE (by omega) (by omega)]; omega), ix_nI (by omega) (by omega), grd_t, grd_t, lt1_s, nI_clE (by omega), show nI i + 1 = nI (i + 1) from nI_succE i]) (fun m g => by
    show xX8_image_2 s (m + 1) (nI 554) g hm = _
    rw [xX8_image_2, if_pos (by rw [L554, nI_leE (by omega) (by omega)]; omega), lt1_s])
  have hg : Good K' im' n := PEq_good h1 h2 h
  have et : thc K' = thc P := by
    unfold thc
    exact cnt_cong (fun t ht => by rw [h1.1 0 t (by omega) ht])
  refine ⟨nI (thc P), K', im', ?_, ?_, hg⟩
  · unfold xX7_image
    rw [e1, bn1_s, lt1_s, c_thingCount, bn1_s, et]
  · unfold xX8_image
    refine e2.trans ?_
    rw [m_things h.2.1, bn1_s]
theorem q_back (h : Good P s n) {K : PSt} {im : RSt} {hi : Int32} (hK : hi ≠ 0 → Good K im n) : ∃ r P' s', xX7_back K hi P = some (r, P') ∧ xX8_back im hi s = some (r, s') ∧ Good P' s' n := by
  unfold xX7_back xX8_back
  by_cases z : hi = 0
  · rw [if_pos z, if_pos z]
    exact ⟨_, _, _, rfl, rfl, h⟩
  · rw [if_neg z, if_neg z]
    have hg := hK z
    obtain ⟨P', e1, h1⟩ := c_copyFrom K P
    obtain ⟨s', e2, h2⟩ := cp_loop im (fun m i g => xX8_back_12 im hi m (nI i) g) (fun g => bn1 (xX8_things g) (fun v2 => some (v2, g))) s (fun m i g hi => by
      show xX8_back_12 im _ (m + 1) (nI i) g = _
      rw [xX8_back_12, if_neg (by rw [L554, nI_leE (by omega) (by omega)]; omega), ix_nI (by omega) (by omega), grd_t, grd_t, lt1_s, nI_clE (by omega), show nI i + 1 = nI (i + 1) from nI_succE i]) (fun m g => by
      show xX8_back_12 im _ (m + 1) (nI 554) g = _
      rw [xX8_back_12, if_pos (by rw [L554, nI_leE (by omega) (by omega)]; omega)])
    have hg' : Good P' s' n := PEq_good h1 h2 hg
    refine ⟨nI (thc P'), P', s', ?_, ?_, hg'⟩
    · rw [e1, bn1_s, c_thingCount, bn1_s]
    · refine e2.trans ?_
      rw [m_things hg'.2.1, bn1_s]
theorem lt_le {a b x : Int32} (h : b.toInt = a.toInt + 1) : (a < x) ↔ (b ≤ x) := by
  rw [Int32.lt_iff_toInt_lt, Int32.le_iff_toInt_le]
  omega
theorem q_act (h : Good P s n) (hn : n ≤ 1000) (hd : RSt) (a b c : Int32) : ∃ P' s' hd', xX3_act P a b c = some P' ∧ xX8_draws s hd a b c = some (s', hd') ∧ Good P' s' (n + 1) := by
  unfold xX3_act xX8_draws
  have c8 : (7 < a) ↔ ((8 : Int32) ≤ a) := lt_le (by decide)
  have c11 : (10 < a) ↔ ((11 : Int32) ≤ a) := lt_le (by decide)
  have c15 : (14 < a) ↔ ((15 : Int32) ≤ a) := lt_le (by decide)
  have c19 : (18 < a) ↔ ((19 : Int32) ≤ a) := lt_le (by decide)
  have c21 : (20 < a) ↔ ((21 : Int32) ≤ a) := lt_le (by decide)
  by_cases h8 : (8 : Int32) ≤ a
  · rw [if_pos (c8.mpr h8), if_pos h8]
    by_cases h11 : (11 : Int32) ≤ a
    · rw [if_pos (c11.mpr h11), if_pos h11]
      by_cases h15 : (15 : Int32) ≤ a
      · rw [if_pos (c15.mpr h15), if_pos h15]
        by_cases h19 : (19 : Int32) ≤ a
        · rw [if_pos (c19.mpr h19), if_pos h19]
          by_cases h21 : (21 : Int32) ≤ a
          · rw [if_pos (c21.mpr h21), if_pos h21]
            by_cases e21 : a = 21
            · rw [if_pos e21, if_pos e21]
              obtain ⟨r, P', s', e1, e2, g⟩ := p_promote h (b - b / 20 * 20)
              rw [e1, e2, bn2_s, bn2_s]
              exact ⟨_, _, _, rfl, rfl, g⟩
            · rw [if_neg e21, if_neg e21]
              by_cases e22 : a = 22
              · rw [if_pos e22, if_pos e22]
                obtain ⟨r, P', s', hd', e1, e2, g⟩ := p_rollback h hd (b - b / 20 * 20)
                rw [e1, e2, bn2_s, bn3_s]
                exact ⟨_, _, _, rfl, rfl, g⟩
              · rw [if_neg e22, if_neg e22]
                obtain ⟨r, P', s', e1, e2, g⟩ := p_files h (-1)
                rw [e1, e2, bn2_s, bn2_s]
                exact ⟨_, _, _, rfl, rfl, g⟩
          · rw [if_neg (fun z => h21 (c21.mp z)), if_neg h21]
            obtain ⟨r, P', s', e1, e2, g⟩ := p_fork h (b - b / 20 * 20)
            rw [e1, e2, bn2_s, bn2_s]
            exact ⟨_, _, _, rfl, rfl, g⟩
        · rw [if_neg (fun z => h19 (c19.mp z)), if_neg h19]
          obtain ⟨r, P', s', hd', e1, e2, g⟩ := p_remove h hd (b - b / 20 * 20)
          rw [e1, e2, bn2_s, bn3_s]
          exact ⟨_, _, _, rfl, rfl, g⟩
      · rw [if_neg (fun z => h15 (c15.mp z)), if_neg h15]
        obtain ⟨r, P', s', e1, e2, g⟩ := p_snap h hn (b - b / 20 * 20) (c / 20)
        rw [e1, e2, bn2_s, bn2_s]
        exact ⟨_, _, _, rfl, rfl, g⟩
    · rw [if_neg (fun z => h11 (c11.mp z)), if_neg h11]
      obtain ⟨r, P', s', hd', e1, e2, g⟩ := p_erase h hd (b - b / 20 * 20) (c - c / 12 * 12)
      rw [e1, e2, bn2_s, bn3_s]
      exact ⟨_, _, _, rfl, rfl, g⟩
  · rw [if_neg (fun z => h8 (c8.mp z)), if_neg h8]
    obtain ⟨r, P', s', hd', e1, e2, g⟩ := p_write h hd (b - b / 20 * 20) (c - c / 12 * 12) (1 + b)
    rw [e1, e2, bn2_s, bn3_s]
    exact ⟨_, _, _, rfl, rfl, g⟩
theorem q_play {k : Nat} (hk : k ≤ 60) (p3 : Int32) (fr : RSt) : ∀ (d i m m' : Nat) (T : PSt) (s hd : RSt) (z : Int32) (n : Nat), i + d = k → d < m → d < m' → n + d ≤ 1000 → Good T s n → ∃ T' z' s' hd', xX3_play_7 m (nI k) (nI i) T z = some (T', z') ∧ xX8_drawn_62 m' (nI k) p3 (nI i) s fr hd z = xX8_drawn_108 600 p3 0 0 s' fr hd' z' ∧ Good T' s' (n + d) := by
  intro d
  induction d with
  | zero =>
    intro i m m' T s hd z n hi hm hm' hn h
    obtain ⟨m, rfl⟩ : ∃ m2, m = m2 + 1 := ⟨m - 1, by omega⟩
    obtain ⟨m', rfl⟩ : ∃ m2, m' = m2 + 1 := ⟨m' - 1, by omega⟩
    rw [xX3_play_7, xX8_drawn_62, if_pos (by rw [nI_leE (by omega) (by omega)]; omega), if_pos (by rw [nI_leE (by omega) (by omega)]; omega)]
    exact ⟨T, z, s, hd, rfl, rfl, h⟩
  | succ d ih =>
    intro i m m' T s hd z n hi hm hm' hn h
    obtain ⟨m, rfl⟩ : ∃ m2, m = m2 + 1 := ⟨m - 1, by omega⟩
    obtain ⟨m', rfl⟩ : ∃ m2, m' = m2 + 1 := ⟨m' - 1, by omega⟩
    rw [xX3_play_7, xX8_drawn_62, if_neg (by rw [nI_leE (by omega) (by omega)]; omega), if_neg (by rw [nI_leE (by omega) (by omega)]; omega)]
    have el : ∀ w, xX8_lots w = xX3_nextFace w := fun w => rfl
    rw [el]
    obtain ⟨v1, z1, f1⟩ : ∃ v z1, xX3_nextFace z = some (v, z1) := ⟨_, _, rfl⟩
    rw [f1, bn2_s, bn2_s, el]
    obtain ⟨v2, z2, f2⟩ : ∃ v z2, xX3_nextFace z1 = some (v, z2) := ⟨_, _, rfl⟩
    rw [f2, bn2_s, bn2_s, el]
    obtain ⟨v3, z3, f3⟩ : ∃ v z3, xX3_nextFace z2 = some (v, z3) := ⟨_, _, rfl⟩
    rw [f3, bn2_s, bn2_s]
    obtain ⟨T', s', hd', e1, e2, g⟩ := q_act h (by omega) hd v1 v2 v3
    rw [e1, e2, bn1_s, bn2_s, show nI i + 1 = nI (i + 1) from nI_succE i]
    have := ih (i + 1) m m' T' s' hd' z3 (n + 1) (by omega) (by omega) (by omega) (by omega) g
    rw [show n + 1 + d = n + (d + 1) by omega] at this
    exact this
theorem q_192 (x6 : Int64) (s fr hd : RSt) (lo : Int32) : ∃ s', xX8_drawn_192 600 x6 0 s fr hd lo = some (x6, s', fr, hd, lo) ∧ ∀ j, j < 554 → s' j = fr j := by
  obtain ⟨g, e, hg⟩ := cp_loop fr (fun m i g => xX8_drawn_192 m x6 (nI i) g fr hd lo) (fun g => some (x6, g, fr, hd, lo)) s (fun m i g hi => by
    show xX8_drawn_192 (m + 1) x6 (nI i) g fr hd lo = _
    rw [xX8_drawn_192, if_neg (by rw [L554, nI_leE (by omega) (by omega)]; omega), ix_nI (by omega) (by omega), grd_t, grd_t, lt1_s, nI_clE (by omega), show nI i + 1 = nI (i + 1) from nI_succE i]) (fun m g => by
    show xX8_drawn_192 (m + 1) x6 (nI 554) g fr hd lo = _
    rw [xX8_drawn_192, if_pos (by rw [L554, nI_leE (by omega) (by omega)]; omega)])
  exact ⟨g, e, hg⟩
theorem q_drawn (h : Good P s n) (hn : n ≤ 900) (T : PSt) (fr hd : RSt) (z lo p1 p2 p3 : Int32) : ∃ r T' z' s' fr' hd' lo', xX7_drawn P T z p1 p2 p3 = some (r, T', z') ∧ xX8_drawn s fr hd lo p1 p2 p3 = some (r, s', fr', hd', lo') ∧ Good P s' n := by
  unfold xX7_drawn xX8_drawn
  rw [m_in, bn1_s, ite10]
  have o60 : (60 < p2) ↔ ¬ (p2 ≤ 60) := by rw [Int32.lt_iff_toInt_lt, Int32.le_iff_toInt_le]; omega
  by_cases hp : 0 ≤ p2 ∧ p2 ≤ 60
  · rw [if_pos hp, if_neg (fun w => by rw [Int32.lt_iff_toInt_lt] at w; have := hp.1; rw [Int32.le_iff_toInt_le] at this; omega), if_neg (fun w => o60.mp w hp.2), c_in, m_in, bn1_s, ite10]
    by_cases hq : 0 ≤ p3 ∧ p3 ≤ 3
    · rw [if_pos hq, if_pos hq]
      obtain ⟨k, hk, rfl⟩ := in_ex (n := 60) (by decide) hp
      obtain ⟨T1, e1, h1⟩ := c_copyFrom P T
      obtain ⟨fr1, e2, h2⟩ := cp_loop s (fun m i g => xX8_drawn_26 m p1 (nI k) p3 (nI i) s g hd lo) (fun g => xX8_drawn_62 600 (nI k) p3 0 s g hd p1) fr (fun m i g hi => by
        show xX8_drawn_26 (m + 1) p1 (nI k) p3 (nI i) s g hd lo = _
        rw [xX8_drawn_26, if_neg (by rw [L554, nI_leE (by omega) (by omega)]; omega), ix_nI (by omega) (by omega), grd_t, grd_t, lt1_s, nI_clE (by omega), show nI i + 1 = nI (i + 1) from nI_succE i]) (fun m g => by
        show xX8_drawn_26 (m + 1) p1 (nI k) p3 (nI 554) s g hd lo = _
        rw [xX8_drawn_26, if_pos (by rw [L554, nI_leE (by omega) (by omega)]; omega), lt1_s])
      have e2' : xX8_drawn_26 600 p1 (nI k) p3 0 s fr hd lo = xX8_drawn_62 600 (nI k) p3 0 s fr1 hd p1 := e2
      have g1 : Good T1 s n := PEq_good h1 (fun _ _ => rfl) h
      obtain ⟨T2, z2, s2, hd2, e3, e4, g2⟩ := q_play hk p3 fr1 k 0 600 600 T1 s hd p1 n (by omega) (by omega) (by omega) (by omega) g1
      have e3' : xX3_play T1 z p1 (nI k) = some (T2, z2) := e3
      have e4' : xX8_drawn_62 600 (nI k) p3 0 s fr1 hd p1 = xX8_drawn_108 600 p3 0 0 s2 fr1 hd2 z2 := e4
      rw [e1, bn1_s, e3', bn2_s, e2', e4']
      obtain ⟨i2, m2, -⟩ := g2
      have e5 : xX8_drawn_108 600 p3 0 0 s2 fr1 hd2 z2 = if p3 = 0 then bn1 (xX8_things s2) (fun v14 => xX8_drawn_192 600 (Int32.toInt64 v14) 0 s2 fr1 hd2 z2) else if p3 = 1 then bn1 (xX8_blocks s2) (fun v12 => xX8_drawn_192 600 (Int32.toInt64 v12) 0 s2 fr1 hd2 z2) else if p3 = 2 then xX8_drawn_192 600 (Int32.toInt64 ((s2 1) - (fr1 1))) 0 s2 fr1 hd2 z2 else xX8_drawn_192 600 (sumL (fun b => (T2 7 b).toInt64) 96) 0 s2 fr1 hd2 z2 := by
        refine loop0 (fun m i r => xX8_drawn_108 m p3 r (nI i) s2 fr1 hd2 z2) (fun i => sumL (fun b => (T2 7 b).toInt64) i) _ 96 600 (by decide) ?_ ?_
        · intro m b hb
          have e7 := m2.2.2.2.2.1 b hb
          have a362 : (362 : Int32) + nI b = nI (362 + b) := nI_addE 362 b
          show xX8_drawn_108 (m + 1) p3 _ (nI b) s2 fr1 hd2 z2 = xX8_drawn_108 m p3 _ (nI (b + 1)) s2 fr1 hd2 z2
          rw [xX8_drawn_108, if_neg (by rw [L96, nI_leE (by omega) (by omega)]; omega), a362, ix_nI (by omega) (by omega), grd_t, nI_clE (by omega), e7, sumL_s, show nI b + 1 = nI (b + 1) from nI_succE b]
        · intro m
          show xX8_drawn_108 (m + 1) p3 _ (nI 96) s2 fr1 hd2 z2 = _
          rw [xX8_drawn_108, if_pos (by rw [L96, nI_leE (by omega) (by omega)]; omega), show ix 1 554 = true by decide, grd_t, grd_t, show (1 : Int32).toNatClampNeg = 1 by decide]
      rw [e5]
      have fin : ∀ x6, ∃ s', xX8_drawn_192 600 x6 0 s2 fr1 hd2 z2 = some (x6, s', fr1, hd2, z2) ∧ Good P s' n := by
        intro x6
        obtain ⟨s', f1, f2⟩ := q_192 x6 s2 fr1 hd2 z2
        exact ⟨s', f1, h.1, Sim_eq (fun j hj => (f2 j hj).trans (h2 j hj)) h.2.1, h.2.2⟩
      by_cases y0 : p3 = 0
      · rw [if_pos y0, if_pos y0, c_thingCount, bn1_s, m_things m2, bn1_s]
        obtain ⟨s', f1, f2⟩ := fin (nI (thc T2)).toInt64
        exact ⟨_, _, _, _, _, _, _, rfl, f1, f2⟩
      rw [if_neg y0, if_neg y0]
      by_cases y1 : p3 = 1
      · rw [if_pos y1, if_pos y1, c_blockCount, bn1_s, m_blocks m2 i2.w.2.2.2.2.2.2.2.2.1, bn1_s]
        obtain ⟨s', f1, f2⟩ := fin (nI (blc T2)).toInt64
        exact ⟨_, _, _, _, _, _, _, rfl, f1, f2⟩
      rw [if_neg y1, if_neg y1]
      by_cases y2 : p3 = 2
      · rw [if_pos y2, if_pos y2, c_freedCount, bn1_s, c_freedCount, bn1_s]
        obtain ⟨s', f1, f2⟩ := fin (s2 1 - fr1 1).toInt64
        refine ⟨_, _, _, s', fr1, hd2, z2, rfl, f1.trans ?_, f2⟩
        rw [m2.1.2, h2 1 (by omega), h.2.1.1.2]
      rw [if_neg y2, if_neg y2, c_sizeOfAll, bn1_s]
      obtain ⟨s', f1, f2⟩ := fin (sumL (fun b => (T2 7 b).toInt64) 96)
      exact ⟨_, _, _, _, _, _, _, rfl, f1, f2⟩
    · rw [if_neg hq, if_neg hq]
      by_cases h0 : p2 < 0
      · exact ⟨_, _, _, _, _, _, _, rfl, rfl, h⟩
      · exact ⟨_, _, _, _, _, _, _, rfl, rfl, h⟩
  · rw [if_neg hp]
    by_cases h0 : p2 < 0
    · rw [if_pos h0]
      exact ⟨_, _, _, _, _, _, _, rfl, rfl, h⟩
    · rw [if_neg h0, if_pos (o60.mpr (fun w => hp ⟨by rw [Int32.le_iff_toInt_le]; rw [Int32.lt_iff_toInt_lt] at h0; omega, w⟩))]
      exact ⟨_, _, _, _, _, _, _, rfl, rfl, h⟩
end
