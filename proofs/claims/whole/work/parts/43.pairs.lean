/-! ===== pairs of calls: the same answer, and all holds behind them ===== -/
def Good (P : PSt) (s : RSt) (n : Nat) : Prop := Inv P ∧ Sim P s ∧ tm P ≤ 100000 + n
theorem Good.up {P : PSt} {s : RSt} {n m : Nat} (h : Good P s n) (hm : n ≤ m) : Good P s m := ⟨h.1, h.2.1, by have := h.2.2; omega⟩
theorem GC_tm {Q P' : PSt} {n : Nat} (h : GC Q P' n) : tm P' = tm Q := by unfold tm; rw [h.2.1]
theorem out_k {y : Int32} {n : Nat} (hn : n < 2147483647) (h : y < 0 ∨ nI (n + 1) ≤ y) : ¬ (0 ≤ y ∧ y ≤ nI n) := by
  rintro ⟨h1, h2⟩
  rw [Int32.le_iff_toInt_le] at h1 h2
  rw [show (0 : Int32).toInt = 0 by decide] at h1
  rw [nI_toInt (by omega)] at h2
  rcases h with h | h
  · rw [Int32.lt_iff_toInt_lt, show (0 : Int32).toInt = 0 by decide] at h
    omega
  · rw [Int32.le_iff_toInt_le, nI_toInt (by omega)] at h
    omega
theorem in_k {k n : Nat} (h : k ≤ n) (hn : n < 2147483648) : (0 : Int32) ≤ nI k ∧ nI k ≤ nI n := in_nI (lo := 0) (by omega) h hn
theorem isF_of {P : PSt} {t : Nat} (h : under (P 0 t) 0) : isF P t := under0.mp h
theorem isS_of {P : PSt} {t : Nat} (h : under (P 0 t) 2) : isS P t := under2.mp h
theorem one_ne : ¬ ((1 : Int32) = 0) := by decide
theorem zero_eq : (0 : Int32) = 0 := rfl
section
variable {P : PSt} {s : RSt} {n : Nat}
theorem p_tick (h : Good P s n) : ∃ r P' s', xX0_passTime P = some (r, P') ∧ xX8_tick s = some (r, s') ∧ Good P' s' (n + 1) := by
  obtain ⟨hI, hS, ht⟩ := h
  unfold xX0_passTime xX8_tick
  rw [c_now, bn1_s]
  have e0 : s 0 = P 9 0 := hS.1.1
  by_cases h1 : P 9 0 < 100000
  · rw [if_pos h1, bn1_s, c_setTime, bn1_s, c_now, bn1_s, st_eq]
    refine ⟨P 9 0 + 1, st P 9 0 (P 9 0 + 1), upd s 0 (P 9 0 + 1), rfl, ?_, A_tick hI ?_, sim_time hS, ?_⟩
    · have h1' : (P 9 0 < nI 100000) = True := eq_true h1
      simp (disch := omega) only [L0, L1, L2, L3, L4, L5, L8, L9, L10, L11, L12, L19, L20, L22, L40, L42, L60, L62, L82, L95, L96, L100, L102, L122, L240, L256, L362, L458, L554, L1000000000, L100000, Lm1, nI_addE, nI_mulE, nI_inj, nI_ltE, nI_leE, nI_clE, nI_m1, m1_nI, m1_lt, m1_le, nI_lt_m1, nI_le_m1, ix_nI, dT_le, dF_le, dT_lt, dF_lt, dT_eq, dF_eq, iT, iF, grd_t, lt1_s, bn1_s, bn2_s, bn3_s, bn4_s, bn5_s, nI_add0, e0, h1', upd_eq]
    · unfold tm
      rw [Int32.lt_iff_toInt_lt, show (100000 : Int32).toInt = 100000 by decide] at h1
      omega
    · have h2 : tm P < 100000 := by
        unfold tm
        rw [Int32.lt_iff_toInt_lt, show (100000 : Int32).toInt = 100000 by decide] at h1
        exact h1
      have h3 := hI.2.2.2.2.2.2.2.2.2.2.2.2.2
      show (st P 9 0 (P 9 0 + 1) 9 0).toInt ≤ _
      rw [st_eq, tm_add (by omega) h3]
      omega
  · rw [if_neg h1]
    refine ⟨-3, P, s, rfl, ?_, hI, hS, by omega⟩
    have h1' : (P 9 0 < nI 100000) = False := eq_false h1
    simp (disch := omega) only [L0, L1, L2, L3, L4, L5, L8, L9, L10, L11, L12, L19, L20, L22, L40, L42, L60, L62, L82, L95, L96, L100, L102, L122, L240, L256, L362, L458, L554, L1000000000, L100000, Lm1, nI_addE, nI_mulE, nI_inj, nI_ltE, nI_leE, nI_clE, nI_m1, m1_nI, m1_lt, m1_le, nI_lt_m1, nI_le_m1, ix_nI, dT_le, dF_le, dT_lt, dF_lt, dT_eq, dF_eq, iT, iF, grd_t, lt1_s, bn1_s, bn2_s, bn3_s, bn4_s, bn5_s, nI_add0, e0, h1']
theorem p_tag (h : Good P s n) (x v : Int32) : ∃ r P' s', xX0_changeTags P x v = some (r, P') ∧ xX8_tag s x v = some (r, s') ∧ Good P' s' (n + 1) := by
  have hg := h.up (Nat.le_succ n)
  obtain ⟨hI, hS, ht⟩ := h
  unfold xX0_changeTags xX8_tag
  rw [m_in, bn1_s]
  rcases arg_ix v (n := 10) (by decide) with hv | ⟨k, hk, rfl⟩
  · rw [if_neg (show ¬ (0 ≤ v ∧ v ≤ 9) from out_k (n := 9) (by decide) hv), if_pos zero_eq]
    refine ⟨-2, P, s, ?_, rfl, hg⟩
    rcases hv with hv | hv
    · rw [if_pos hv]
    · by_cases h0 : v < 0
      · rw [if_pos h0]
      · rw [if_neg h0, if_neg]
        exact fun z => out_k (n := 9) (by decide) (Or.inr hv) ⟨by rw [Int32.le_iff_toInt_le]; rw [Int32.lt_iff_toInt_lt] at h0; omega, z⟩
  · rw [if_pos (show (0 : Int32) ≤ nI k ∧ nI k ≤ 9 from in_k (n := 9) (by omega) (by decide)), if_neg one_ne, if_neg (show ¬ nI k < 0 from nI_pos (by omega)), if_pos (show nI k ≤ 9 from (in_k (n := 9) (by omega) (by decide)).2), c_refA, bn1_s, m_asked hS, bn1_s]
    by_cases hr : refA P x 3 = 0
    · obtain ⟨t, ht2, rfl, hk2, hu⟩ := refA_ok hr
      have h3 : P 0 t = 3 := by
        rcases hu with z | z | z
        · exact z
        · exact absurd z.2 (by decide)
        · exact absurd z.2 (by decide)
      rw [if_pos hr, if_pos hr, c_tagsOf, bn1_s, rd_nI (by decide) ht2, c_setTags ht2, bn1_s]
      refine ⟨P 4 t, st P 4 t (nI k), upd s (102 + t) (nI k), rfl, ?_, A_tags hI h3, sim_tags hS ht2, ?_⟩
      · have e := (hS.2.2.1 t ht2 hk2).2.2.2.2
        simp (disch := omega) only [L0, L1, L2, L3, L4, L5, L8, L9, L10, L11, L12, L19, L20, L22, L40, L42, L60, L62, L82, L95, L96, L100, L102, L122, L240, L256, L362, L458, L554, L1000000000, L100000, Lm1, nI_addE, nI_mulE, nI_inj, nI_ltE, nI_leE, nI_clE, nI_m1, m1_nI, m1_lt, m1_le, nI_lt_m1, nI_le_m1, ix_nI, dT_le, dF_le, dT_lt, dF_lt, dT_eq, dF_eq, iT, iF, grd_t, lt1_s, bn1_s, bn2_s, bn3_s, bn4_s, bn5_s, nI_add0, e]
      · unfold tm at *
        rw [st_ne1 (by decide)]; omega
    · rw [if_neg hr, if_neg hr]
      exact ⟨refA P x 3, P, s, rfl, rfl, hg⟩
theorem nI_ne4 {a : Nat} (h : a < 100) : ¬ nI a = (-4 : Int32) := by
  intro z
  have := congrArg Int32.toInt z
  rw [nI_toInt (by omega), show ((-4 : Int32)).toInt = -4 by decide] at this
  omega
theorem nI_ne_lit {a b : Nat} (ha : a < 100) (hb : b < 100) (h : a ≠ b) : ¬ nI a = nI b := fun z => h (nI_lt_inj ha hb z)
theorem sim_files (hI : Inv P) (hS : Sim P s) {N : Nat} (h20 : N < 20) (h0 : P 0 N = m1) {kk md0 qv : Int32} (hk : kk ≠ m1) : Sim (st (st (st P 0 N kk) 1 N md0) 5 N qv) (upd (cms s N kk md0) (82 + N) qv) := by
  have hb := hI.2.2.1 N h20 (nhs_m1 h0)
  have hn := hI.2.1 N h20 h0
  have c := cms_n (s := s) (kk := kk) (md0 := md0) h20
  refine sim_new hS h20 ?_ ?_ (fun a t ha ht => ?_) (fun t k ht hk2 hne => ?_) ?_ ?_ (fun j hj => ?_) ?_ (fun _ => ?_) (fun k hk2 _ => ?_)
  · rw [st_ne1 (by decide), st_ne1 (by decide), st_ne1 (by decide)]
  · rw [st_ne1 (by decide), st_ne1 (by decide), st_ne1 (by decide)]
  · rw [st_if, if_neg (by omega), st_if, if_neg (by omega), st_if, if_neg (by omega)]
  · rw [st_ne1 (by decide), st_ne1 (by decide), st_ne1 (by decide)]
  · rw [st_row (by decide), st_row (by decide), st_row (by decide)]
  · rw [st_row (by decide), st_row (by decide), st_row (by decide)]
  · rw [upd_ne (by omega)]; exact cms_o hj
  · rw [upd_ne (by omega), c.1, st_ne1 (by decide), st_ne1 (by decide), st_eq]
  · refine ⟨?_, ?_, ?_, ?_, ?_⟩
    · rw [upd_ne (by omega), c.2.1, st_ne1 (by decide), st_eq]
    · rw [upd_ne (by omega), c.2.2.1, st_ne1 (by decide), st_ne1 (by decide), st_ne1 (by decide), hb.1]
    · rw [upd_ne (by omega), c.2.2.2.1, st_ne1 (by decide), st_ne1 (by decide), st_ne1 (by decide), hb.2.1]
    · rw [upd_eq, st_eq]
    · rw [upd_ne (by omega), c.2.2.2.2.2.1, st_ne1 (by decide), st_ne1 (by decide), st_ne1 (by decide), hn.1]
  · rw [upd_ne (by omega), c.2.2.2.2.2.2 k hk2, st_ne1 (by decide), st_ne1 (by decide), st_ne1 (by decide), hb.2.2 k hk2]
theorem fst_free {N : Nat} (hN : fst1 (fun j => decide (P 0 j = m1)) 20 = N) (h : N < 20) : P 0 N = m1 := by
  have := fst1_yes (fun j => decide (P 0 j = m1)) 20 (by omega)
  rw [hN] at this
  simpa using this
theorem p_files (h : Good P s n) (q : Int32) : ∃ r P' s', xX0_addFiles P q = some (r, P') ∧ xX8_files s q = some (r, s') ∧ Good P' s' (n + 1) := by
  have hg := h.up (Nat.le_succ n)
  obtain ⟨hI, hS, ht⟩ := h
  unfold xX0_addFiles xX8_files
  rw [m_in, bn1_s]
  by_cases h1 : q < -1
  · have hz : ¬ (-1 ≤ q ∧ q ≤ 1000000000) := by
      rintro ⟨z, -⟩
      rw [Int32.lt_iff_toInt_lt] at h1
      rw [Int32.le_iff_toInt_le] at z
      omega
    rw [if_pos h1, if_neg hz, if_pos zero_eq]
    exact ⟨-2, P, s, rfl, rfl, hg⟩
  · rw [if_neg h1]
    by_cases h2 : q ≤ 1000000000
    · rw [if_pos h2, if_pos (show (-1 : Int32) ≤ q ∧ q ≤ 1000000000 from ⟨by rw [Int32.le_iff_toInt_le]; rw [Int32.lt_iff_toInt_lt] at h1; omega, h2⟩), if_neg one_ne]
      generalize hN : fst1 (fun j => decide (P 0 j = m1)) 20 = N
      have hle : N ≤ 20 := hN ▸ fst1_le _ 20
      rw [m_newThing hS hN, bn1_s]
      have e0 : s 0 = P 9 0 := hS.1.1
      have key : ∀ kk : Int32, (kk = 0 ∨ kk = 1) → ((kk = 0 → q = m1) ∧ (kk = 1 → q ≠ m1)) → ∃ r P' s', xX0_addFiles_28 q kk P = some (r, P') ∧ (if nI N = 20 then some (-4, s) else xX8_files_36 q kk s) = some (r, s') ∧ Good P' s' (n + 1) := by
        intro kk hk hq
        have hkm : kk ≠ m1 := by rcases hk with z | z <;> rw [z] <;> decide
        unfold xX0_addFiles_28 xX8_files_36
        rw [c_now, bn1_s, c_newThing P kk (P 9 0) hN]
        by_cases h20 : N < 20
        · have h0 := fst_free hN h20
          rw [if_pos h20, bn2_s, if_neg (nI_ne4 (by omega)), c_setQuota h20, bn1_s, if_neg (show ¬ nI N = 20 from nI_ne_lit (b := 20) (by omega) (by omega) (by omega))]
          refine ⟨nI N, _, upd (cms s N kk (P 9 0)) (82 + N) q, rfl, ?_, A_files hI h20 h0 hk hq, sim_files hI hS h20 h0 hkm, ?_⟩
          · have ec := m_comes hS hN h20 kk (P 9 0)
            simp (disch := omega) only [L0, L1, L2, L3, L4, L5, L8, L9, L10, L11, L12, L19, L20, L22, L40, L42, L60, L62, L82, L95, L96, L100, L102, L122, L240, L256, L362, L458, L554, L1000000000, L100000, Lm1, nI_addE, nI_mulE, nI_inj, nI_ltE, nI_leE, nI_clE, nI_m1, m1_nI, m1_lt, m1_le, nI_lt_m1, nI_le_m1, ix_nI, dT_le, dF_le, dT_lt, dF_lt, dT_eq, dF_eq, iT, iF, grd_t, lt1_s, bn1_s, bn2_s, bn3_s, bn4_s, bn5_s, nI_add0, e0, ec]
          · unfold tm at *
            rw [st_ne1 (by decide), st_ne1 (by decide), st_ne1 (by decide)]; omega
        · have : N = 20 := by omega
          subst this
          rw [if_neg (by omega), bn2_s, if_pos rfl, if_pos (show nI 20 = 20 from rfl)]
          exact ⟨-4, P, s, rfl, rfl, hg⟩
      by_cases hm : q = -1
      · rw [if_pos hm, if_pos hm]
        exact key 0 (Or.inl rfl) ⟨fun _ => hm, fun z => absurd z (by decide)⟩
      · rw [if_neg hm, if_neg hm]
        exact key 1 (Or.inr rfl) ⟨fun z => absurd z (by decide), fun _ => hm⟩
    · rw [if_neg h2, if_neg (show ¬ (-1 ≤ q ∧ q ≤ 1000000000) from fun z => h2 z.2), if_pos zero_eq]
      exact ⟨-2, P, s, rfl, rfl, hg⟩
theorem p_mark (h : Good P s n) (x : Int32) : ∃ r P' s', xX0_addBookmark P x = some (r, P') ∧ xX8_mark s x = some (r, s') ∧ Good P' s' (n + 1) := by
  have hg := h.up (Nat.le_succ n)
  obtain ⟨hI, hS, ht⟩ := h
  unfold xX0_addBookmark xX8_mark
  rw [c_refA, bn1_s, m_asked hS, bn1_s]
  by_cases hr : refA P x 2 = 0
  · obtain ⟨t, ht2, rfl, hk2, hu⟩ := refA_ok hr
    rw [if_pos hr, if_pos hr, c_madeOf, bn1_s, rd_nI (by decide) ht2]
    generalize hN : fst1 (fun j => decide (P 0 j = m1)) 20 = N
    have hle : N ≤ 20 := hN ▸ fst1_le _ 20
    rw [m_newThing hS hN, bn1_s, c_newThing P 4 (P 1 t) hN]
    by_cases h20 : N < 20
    · have h0 := fst_free hN h20
      rw [if_pos h20, bn2_s, if_neg (show ¬ nI N = 20 from nI_ne_lit (b := 20) (by omega) (by omega) (by omega))]
      have e1 := (hS.2.2.1 t ht2 hk2).1
      refine ⟨nI N, _, cms s N 4 (P 1 t), rfl, ?_, A_mark hI h20 h0, ?_, ?_⟩
      · have ec := m_comes hS hN h20 4 (P 1 t)
        simp (disch := omega) only [L0, L1, L2, L3, L4, L5, L8, L9, L10, L11, L12, L19, L20, L22, L40, L42, L60, L62, L82, L95, L96, L100, L102, L122, L240, L256, L362, L458, L554, L1000000000, L100000, Lm1, nI_addE, nI_mulE, nI_inj, nI_ltE, nI_leE, nI_clE, nI_m1, m1_nI, m1_lt, m1_le, nI_lt_m1, nI_le_m1, ix_nI, dT_le, dF_le, dT_lt, dF_lt, dT_eq, dF_eq, iT, iF, grd_t, lt1_s, bn1_s, bn2_s, bn3_s, bn4_s, bn5_s, nI_add0, e1]
        rw [show (nI 4 : Int32) = 4 from rfl, ec]
        simp (disch := omega) only [L0, L1, L2, L3, L4, L5, L8, L9, L10, L11, L12, L19, L20, L22, L40, L42, L60, L62, L82, L95, L96, L100, L102, L122, L240, L256, L362, L458, L554, L1000000000, L100000, Lm1, nI_addE, nI_mulE, nI_inj, nI_ltE, nI_leE, nI_clE, nI_m1, m1_nI, m1_lt, m1_le, nI_lt_m1, nI_le_m1, ix_nI, dT_le, dF_le, dT_lt, dF_lt, dT_eq, dF_eq, iT, iF, grd_t, lt1_s, bn1_s, bn2_s, bn3_s, bn4_s, bn5_s, nI_add0]
      · have hb := hI.2.2.1 N h20 (nhs_m1 h0)
        have hn := hI.2.1 N h20 h0
        have c := cms_n (s := s) (kk := 4) (md0 := P 1 t) h20
        refine sim_new hS h20 ?_ ?_ (fun a u ha hu2 => ?_) (fun u k hu2 hk3 hne => ?_) ?_ ?_ (fun j hj => cms_o hj) ?_ (fun _ => ?_) (fun k hk3 _ => ?_)
        · rw [st_ne1 (by decide), st_ne1 (by decide)]
        · rw [st_ne1 (by decide), st_ne1 (by decide)]
        · rw [st_if, if_neg (by omega), st_if, if_neg (by omega)]
        · rw [st_ne1 (by decide), st_ne1 (by decide)]
        · rw [st_row (by decide), st_row (by decide)]
        · rw [st_row (by decide), st_row (by decide)]
        · rw [c.1, st_ne1 (by decide), st_eq]
        · refine ⟨?_, ?_, ?_, ?_, ?_⟩
          · rw [c.2.1, st_eq]
          · rw [c.2.2.1, st_ne1 (by decide), st_ne1 (by decide), hb.1]
          · rw [c.2.2.2.1, st_ne1 (by decide), st_ne1 (by decide), hb.2.1]
          · rw [c.2.2.2.2.1, st_ne1 (by decide), st_ne1 (by decide), hn.2]
          · rw [c.2.2.2.2.2.1, st_ne1 (by decide), st_ne1 (by decide), hn.1]
        · rw [c.2.2.2.2.2.2 k hk3, st_ne1 (by decide), st_ne1 (by decide), hb.2.2 k hk3]
      · unfold tm at *
        rw [st_ne1 (by decide), st_ne1 (by decide)]; omega
    · have : N = 20 := by omega
      subst this
      rw [if_neg (by omega), bn2_s, if_pos (show nI 20 = 20 from rfl)]
      exact ⟨-4, P, s, rfl, rfl, hg⟩
  · rw [if_neg hr, if_neg hr]
    exact ⟨refA P x 2, P, s, rfl, rfl, hg⟩
/-- a slot of files let go -/
theorem p_empty (hI : Inv P) (hS : Sim P s) {f k : Nat} (hf : f < 20) (hk : k < 12) (hF : isF P f) (hd : RSt) : ∃ m P' s' hd', xX0_emptySlot P (nI f) (nI k) = some (nI m, P') ∧ xX8_erased s hd (nI f) (nI k) = some (P 6 (f * 12 + k), s', hd') ∧ Inv P' ∧ Sim P' s' ∧ tm P' = tm P := by
  obtain ⟨m, P', e, hG, hI'⟩ := E_slot hI hf hk hF
  have hW : WInv (st P 6 (f * 12 + k) m1) := W_esl hI.w hf hk hF (fun a ha => st_row ha) (fun i => by rw [st_if]; by_cases h : i = f * 12 + k <;> simp [h])
  obtain ⟨s', hd', e2, hS'⟩ := m_frees (sim_cell hS hf hk) hW hG hd
  refine ⟨m, P', s', hd', e, ?_, hI', hS', ?_⟩
  · have e1 := sim_slot hS hf hk (Or.inl hF)
    unfold xX8_erased
    simp (disch := omega) only [L0, L1, L2, L3, L4, L5, L8, L9, L10, L11, L12, L19, L20, L22, L40, L42, L60, L62, L82, L95, L96, L100, L102, L122, L240, L256, L362, L458, L554, L1000000000, L100000, Lm1, nI_addE, nI_mulE, nI_inj, nI_ltE, nI_leE, nI_clE, nI_m1, m1_nI, m1_lt, m1_le, nI_lt_m1, nI_le_m1, ix_nI, dT_le, dF_le, dT_lt, dF_lt, dT_eq, dF_eq, iT, iF, grd_t, lt1_s, bn1_s, bn2_s, bn3_s, bn4_s, bn5_s, nI_add0, e1]
    rw [e2, bn3_s]
  · rw [GC_tm hG]
    unfold tm
    rw [st_ne1 (by decide)]
theorem p_erase (h : Good P s n) (hd : RSt) (x y : Int32) : ∃ r P' s' hd', xX0_eraseSlot P x y = some (r, P') ∧ xX8_erase s hd x y = some (r, s', hd') ∧ Good P' s' (n + 1) := by
  have hg := h.up (Nat.le_succ n)
  obtain ⟨hI, hS, ht⟩ := h
  unfold xX0_eraseSlot xX8_erase
  rw [m_in, bn1_s]
  rcases arg_ix y (n := 12) (by decide) with hy | ⟨k, hk, rfl⟩
  · rw [if_neg (show ¬ (0 ≤ y ∧ y ≤ 11) from out_k (n := 11) (by decide) hy), if_pos zero_eq]
    refine ⟨-2, P, s, hd, ?_, rfl, hg⟩
    by_cases h0 : y < 0
    · rw [if_pos h0]
    · rw [if_neg h0, if_neg]
      rcases hy with hy | hy
      · exact absurd hy h0
      · rw [Int32.lt_iff_toInt_lt]
        rw [Int32.le_iff_toInt_le] at hy
        rw [show (nI 12).toInt = (12 : Int32).toInt from rfl] at hy
        omega
  · rw [if_pos (show (0 : Int32) ≤ nI k ∧ nI k ≤ 11 from in_k (n := 11) (by omega) (by decide)), if_neg one_ne, if_neg (show ¬ nI k < 0 from nI_pos (by omega)), if_pos (show nI k < 12 from by rw [L12, nI_ltE (by omega) (by omega)]; exact hk), c_refA, bn1_s, m_asked hS, bn1_s]
    by_cases hr : refA P x 0 = 0
    · obtain ⟨f, hf, rfl, hk2, hu⟩ := refA_ok hr
      obtain ⟨m, P', s', hd', e1, e2, hI', hS', etm⟩ := p_empty hI hS hf hk (isF_of hu) hd
      rw [if_pos hr, if_pos hr, c_blockIn, bn1_s, bi_nI hf hk, e1, bn2_s, e2, bn3_s]
      exact ⟨_, P', s', hd', rfl, rfl, hI', hS', by omega⟩
    · rw [if_neg hr, if_neg hr]
      exact ⟨refA P x 0, P, s, hd, rfl, rfl, hg⟩
end
