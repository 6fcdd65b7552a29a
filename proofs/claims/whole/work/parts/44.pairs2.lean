/-! ===== more pairs: snap, fork, rollback, remove, write, promote ===== -/
section
variable {P : PSt} {s : RSt} {n : Nat}
theorem p_rollback (h : Good P s n) (hd : RSt) (x : Int32) : ∃ r P' s' hd', xX0_rollFilesBack P x = some (r, P') ∧ xX8_rollback s hd x = some (r, s', hd') ∧ Good P' s' (n + 1) := by
  have hg := h.up (Nat.le_succ n)
  obtain ⟨hI, hS, ht⟩ := h
  unfold xX0_rollFilesBack xX8_rollback
  rw [c_refA, bn1_s, m_asked hS, bn1_s]
  by_cases hr : refA P x 0 = 0
  · obtain ⟨f, hf, rfl, hk2, hu⟩ := refA_ok hr
    have hF := isF_of hu
    have e2 := (hS.2.2.1 f hf hk2).2.1
    have ea : (42 : Int32) + nI f = nI (42 + f) := nI_addE 42 f
    rw [if_pos hr, if_pos hr, c_prevOf, bn1_s, rd_nI (by decide) hf, ea, ix_nI (by omega) (by omega), grd_t, nI_clE (by omega), e2]
    rcases hI.2.2.2.2.2.1 f hf with hm | ⟨u, hu2, e, hS2, -⟩
    · rw [if_pos hm, if_pos hm]
      exact ⟨-3, P, s, hd, rfl, rfl, hg⟩
    · have hum : ¬ nI u = (-1 : Int32) := nI_ne_m1 (by omega)
      rw [e, if_neg hum, if_neg hum, grd_t]
      have huf : f ≠ u := fun z => sF hS2 (z ▸ hF)
      obtain ⟨m, P', e1, hG, hI'⟩ := c_rollback hI hf hu2 hF hS2 e
      have hsim : Sim (cps P u f 12) (tks s f u 12) := by
        obtain ⟨h1, h2, h3, h4, h5, h6⟩ := hS
        have r : ∀ a i, a ≠ 6 → cps P u f 12 a i = P a i := fun a i ha => by rw [cps_row ha]
        have eh : ∀ t, hs (cps P u f 12) t ↔ hs P t := fun t => by unfold hs isF isS; rw [r 0 t (by decide)]
        refine ⟨⟨?_, ?_⟩, fun t ht2 => ?_, fun t ht2 hh => ?_, fun t k ht2 hk hh => ?_, fun b hb => ?_, fun b hb hh => ?_⟩
        · rw [tks_o (by omega), r _ _ (by decide)]; exact h1.1
        · rw [tks_o (by omega), r _ _ (by decide)]; exact h1.2
        · rw [tks_o (by omega), r _ _ (by decide)]; exact h2 t ht2
        · rw [r _ _ (by decide)] at hh
          rw [tks_o (by omega), tks_o (by omega), tks_o (by omega), tks_o (by omega), tks_o (by omega), r _ _ (by decide), r _ _ (by decide), r _ _ (by decide), r _ _ (by decide), r _ _ (by decide)]
          exact h3 t ht2 hh
        · rw [tks_at hk, cps_at ht2 hk]
          by_cases w : t = f
          · rw [if_pos w, if_pos w]; exact h4 u k hu2 hk (Or.inr hS2)
          · rw [if_neg w, if_neg w]; exact h4 t k ht2 hk ((eh t).mp hh)
        · rw [tks_o (by omega), r _ _ (by decide)]; exact h5 b hb
        · rw [r _ _ (by decide)] at hh
          rw [tks_o (by omega), r _ _ (by decide)]; exact h6 b hb hh
      have hW := W_like hI.w hf hu2 hF hS2 e (fun a ha => cps_row ha) (fun t k ht2 hk => cps_at (P := P) (u := u) (f := f) ht2 hk)
      obtain ⟨s', hd', e3, hS'⟩ := m_frees hsim hW hG hd
      rw [m_takes hf hu2 huf, bn1_s, e3, bn3_s]
      refine ⟨nI m, P', s', hd', e1, rfl, hI', hS', ?_⟩
      rw [GC_tm hG]
      unfold tm at *
      rw [cps_row (by decide)]; omega
  · rw [if_neg hr, if_neg hr]
    exact ⟨refA P x 0, P, s, hd, rfl, rfl, hg⟩
theorem p_fork (h : Good P s n) (x : Int32) : ∃ r P' s', xX0_addFork P x = some (r, P') ∧ xX8_fork s x = some (r, s') ∧ Good P' s' (n + 1) := by
  have hg := h.up (Nat.le_succ n)
  obtain ⟨hI, hS, ht⟩ := h
  unfold xX0_addFork xX8_fork
  rw [c_refA, bn1_s, m_asked hS, bn1_s]
  by_cases hr : refA P x 2 = 0
  · obtain ⟨u, hu2, rfl, hk2, hu⟩ := refA_ok hr
    have hSu := isS_of hu
    rw [if_pos hr, if_pos hr, c_now, bn1_s]
    generalize hN : fst1 (fun j => decide (P 0 j = m1)) 20 = N
    have hle : N ≤ 20 := hN ▸ fst1_le _ 20
    rw [m_newThing hS hN, bn1_s, c_newThing P 0 (P 9 0) hN]
    by_cases h20 : N < 20
    · have h0 := fst_free hN h20
      have huN : u ≠ N := fun z => hk2 (z ▸ h0)
      rw [if_pos h20, bn2_s, if_neg (nI_ne4 (by omega)), c_copySlots hu2 h20 huN, bn1_s, c_setPrev h20, bn1_s, if_neg (show ¬ nI N = 20 from nI_ne_lit (b := 20) (by omega) (by omega) (by omega))]
      have e0 : s 0 = P 9 0 := hS.1.1
      refine ⟨nI N, frk P u N, upd (tks (cms s N 0 (P 9 0)) N u 12) (42 + N) (nI u), rfl, ?_, A_fork hI hu2 h20 h0 hSu, ?_, ?_⟩
      · have ec := m_comes hS hN h20 0 (P 9 0)
        have et := m_takes (s := cms s N 0 (P 9 0)) h20 hu2 (Ne.symm huN)
        rw [show (0 : Int32) = nI 0 from rfl] at ec et ⊢
        simp (disch := omega) only [L0, L1, L2, L3, L4, L5, L8, L9, L10, L11, L12, L19, L20, L22, L40, L42, L60, L62, L82, L95, L96, L100, L102, L122, L240, L256, L362, L458, L554, L1000000000, L100000, Lm1, nI_addE, nI_mulE, nI_inj, nI_ltE, nI_leE, nI_clE, nI_m1, m1_nI, m1_lt, m1_le, nI_lt_m1, nI_le_m1, ix_nI, dT_le, dF_le, dT_lt, dF_lt, dT_eq, dF_eq, iT, iF, grd_t, lt1_s, bn1_s, bn2_s, bn3_s, bn4_s, bn5_s, nI_add0, e0, ec, et]
      · have hb := hI.2.2.1 N h20 (nhs_m1 h0)
        have hn := hI.2.1 N h20 h0
        have c := cms_n (s := s) (kk := 0) (md0 := P 9 0) h20
        refine sim_new hS h20 ?_ ?_ (fun a t ha ht2 => ?_) (fun t k ht2 hk3 hne => ?_) ?_ ?_ (fun j hj => ?_) ?_ (fun _ => ?_) (fun k hk3 _ => ?_)
        · unfold frk; rw [st_ne1 (by decide), cps_row (by decide), st_ne1 (by decide), st_ne1 (by decide)]
        · unfold frk; rw [st_ne1 (by decide), cps_row (by decide), st_ne1 (by decide), st_ne1 (by decide)]
        · unfold frk; rw [st_if, if_neg (by omega), cps_row (by omega), st_if, if_neg (by omega), st_if, if_neg (by omega)]
        · unfold frk; rw [st_ne1 (by decide), cps_at ht2 hk3, if_neg hne, st_ne1 (by decide), st_ne1 (by decide)]
        · unfold frk; rw [st_row (by decide), cps_row (by decide), st_row (by decide), st_row (by decide)]
        · unfold frk; rw [st_row (by decide), cps_row (by decide), st_row (by decide), st_row (by decide)]
        · rw [upd_ne (by omega), tks_o (by omega)]; exact cms_o hj
        · unfold frk; rw [upd_ne (by omega), tks_o (by omega), c.1, st_ne1 (by decide), cps_row (by decide), st_ne1 (by decide), st_eq]
        · unfold frk
          refine ⟨?_, ?_, ?_, ?_, ?_⟩
          · rw [upd_ne (by omega), tks_o (by omega), c.2.1, st_ne1 (by decide), cps_row (by decide), st_eq]
          · rw [upd_eq, st_eq]
          · rw [upd_ne (by omega), tks_o (by omega), c.2.2.2.1, st_ne1 (by decide), cps_row (by decide), st_ne1 (by decide), st_ne1 (by decide), hb.2.1]
          · rw [upd_ne (by omega), tks_o (by omega), c.2.2.2.2.1, st_ne1 (by decide), cps_row (by decide), st_ne1 (by decide), st_ne1 (by decide), hn.2]
          · rw [upd_ne (by omega), tks_o (by omega), c.2.2.2.2.2.1, st_ne1 (by decide), cps_row (by decide), st_ne1 (by decide), st_ne1 (by decide), hn.1]
        · unfold frk
          rw [upd_ne (by omega), tks_at hk3, if_pos rfl, cms_o (by omega), st_ne1 (by decide), cps_at h20 hk3, if_pos rfl, st_ne1 (by decide), st_ne1 (by decide)]
          exact sim_slot hS hu2 hk3 (Or.inr hSu)
      · unfold tm at *
        unfold frk
        rw [st_ne1 (by decide), cps_row (by decide), st_ne1 (by decide), st_ne1 (by decide)]; omega
    · have : N = 20 := by omega
      subst this
      rw [if_neg (by omega), bn2_s, if_pos rfl, if_pos (show nI 20 = 20 from rfl)]
      exact ⟨-4, P, s, rfl, rfl, hg⟩
  · rw [if_neg hr, if_neg hr]
    exact ⟨refA P x 2, P, s, rfl, rfl, hg⟩
theorem p_snapM (hI : Inv P) (hS : Sim P s) {f : Nat} (hf : f < 20) (hF : isF P f) {k : Nat} (hk : k < 2) {N : Nat} (hN : fst1 (fun j => decide (P 0 j = m1)) 20 = N) (h20 : N < 20) (hr : refA P (nI f) 0 = 0) : ∃ s', xX8_snap s (nI f) (nI k) = some (nI N, s') ∧ Sim (snp P f N (nI (2 + k)) (nI k)) s' := by
  generalize hkk : nI (2 + k) = kk
  generalize htg : nI k = tg
  have h0 := fst_free hN h20
  have hfN : f ≠ N := fun z => nhs_m1 h0 (Or.inl (z ▸ hF))
  have hb := hI.2.2.1 N h20 (nhs_m1 h0)
  have hn := hI.2.1 N h20 h0
  have hkf : P 0 f ≠ m1 := sN (Or.inl hF)
  have e42 := (hS.2.2.1 f hf hkf).2.1
  have e0 : s 0 = P 9 0 := hS.1.1
  have c := cms_n (s := s) (kk := kk) (md0 := P 9 0) h20
  -- the thing N alone
  have simA : Sim (st (st (st (cps (st (st P 0 N kk) 1 N (P 9 0)) f N 12) 2 N (P 2 f)) 3 N (nI f)) 4 N tg) (upd (upd (upd (tks (cms s N kk (P 9 0)) N f 12) (42 + N) (P 2 f)) (62 + N) (nI f)) (102 + N) tg) := by
    refine sim_new hS h20 ?_ ?_ (fun a t ha ht2 => ?_) (fun t k ht2 hk3 hne => ?_) ?_ ?_ (fun j hj => ?_) ?_ (fun _ => ?_) (fun k hk3 _ => ?_)
    · show (st (st (st (cps (st (st P 0 N kk) 1 N (P 9 0)) f N 12) 2 N (P 2 f)) 3 N (nI f)) 4 N tg) 9 0 = _; rw [st_ne1 (by decide), st_ne1 (by decide), st_ne1 (by decide), cps_row (by decide), st_ne1 (by decide), st_ne1 (by decide)]
    · show (st (st (st (cps (st (st P 0 N kk) 1 N (P 9 0)) f N 12) 2 N (P 2 f)) 3 N (nI f)) 4 N tg) 10 0 = _; rw [st_ne1 (by decide), st_ne1 (by decide), st_ne1 (by decide), cps_row (by decide), st_ne1 (by decide), st_ne1 (by decide)]
    · show (st (st (st (cps (st (st P 0 N kk) 1 N (P 9 0)) f N 12) 2 N (P 2 f)) 3 N (nI f)) 4 N tg) a t = _; rw [st_if, if_neg (by omega), st_if, if_neg (by omega), st_if, if_neg (by omega), cps_row (by omega), st_if, if_neg (by omega), st_if, if_neg (by omega)]
    · show (st (st (st (cps (st (st P 0 N kk) 1 N (P 9 0)) f N 12) 2 N (P 2 f)) 3 N (nI f)) 4 N tg) 6 _ = _; rw [st_ne1 (by decide), st_ne1 (by decide), st_ne1 (by decide), cps_at ht2 hk3, if_neg hne, st_ne1 (by decide), st_ne1 (by decide)]
    · show (st (st (st (cps (st (st P 0 N kk) 1 N (P 9 0)) f N 12) 2 N (P 2 f)) 3 N (nI f)) 4 N tg) 7 = _; rw [st_row (by decide), st_row (by decide), st_row (by decide), cps_row (by decide), st_row (by decide), st_row (by decide)]
    · show (st (st (st (cps (st (st P 0 N kk) 1 N (P 9 0)) f N 12) 2 N (P 2 f)) 3 N (nI f)) 4 N tg) 8 = _; rw [st_row (by decide), st_row (by decide), st_row (by decide), cps_row (by decide), st_row (by decide), st_row (by decide)]
    · show (upd (upd (upd (tks (cms s N kk (P 9 0)) N f 12) (42 + N) (P 2 f)) (62 + N) (nI f)) (102 + N) tg) j = _; rw [upd_ne (by omega), upd_ne (by omega), upd_ne (by omega), tks_o (by omega)]; exact cms_o hj
    · show (upd (upd (upd (tks (cms s N kk (P 9 0)) N f 12) (42 + N) (P 2 f)) (62 + N) (nI f)) (102 + N) tg) (2 + N) = (st (st (st (cps (st (st P 0 N kk) 1 N (P 9 0)) f N 12) 2 N (P 2 f)) 3 N (nI f)) 4 N tg) 0 N; rw [upd_ne (by omega), upd_ne (by omega), upd_ne (by omega), tks_o (by omega), c.1, st_ne1 (by decide), st_ne1 (by decide), st_ne1 (by decide), cps_row (by decide), st_ne1 (by decide), st_eq]
    · refine ⟨?_, ?_, ?_, ?_, ?_⟩
      · show (upd (upd (upd (tks (cms s N kk (P 9 0)) N f 12) (42 + N) (P 2 f)) (62 + N) (nI f)) (102 + N) tg) (22 + N) = (st (st (st (cps (st (st P 0 N kk) 1 N (P 9 0)) f N 12) 2 N (P 2 f)) 3 N (nI f)) 4 N tg) 1 N; rw [upd_ne (by omega), upd_ne (by omega), upd_ne (by omega), tks_o (by omega), c.2.1, st_ne1 (by decide), st_ne1 (by decide), st_ne1 (by decide), cps_row (by decide), st_eq]
      · show (upd (upd (upd (tks (cms s N kk (P 9 0)) N f 12) (42 + N) (P 2 f)) (62 + N) (nI f)) (102 + N) tg) (42 + N) = (st (st (st (cps (st (st P 0 N kk) 1 N (P 9 0)) f N 12) 2 N (P 2 f)) 3 N (nI f)) 4 N tg) 2 N; rw [upd_ne (by omega), upd_ne (by omega), upd_eq, st_ne1 (by decide), st_ne1 (by decide), st_eq]
      · show (upd (upd (upd (tks (cms s N kk (P 9 0)) N f 12) (42 + N) (P 2 f)) (62 + N) (nI f)) (102 + N) tg) (62 + N) = (st (st (st (cps (st (st P 0 N kk) 1 N (P 9 0)) f N 12) 2 N (P 2 f)) 3 N (nI f)) 4 N tg) 3 N; rw [upd_ne (by omega), upd_eq, st_ne1 (by decide), st_eq]
      · show (upd (upd (upd (tks (cms s N kk (P 9 0)) N f 12) (42 + N) (P 2 f)) (62 + N) (nI f)) (102 + N) tg) (82 + N) = (st (st (st (cps (st (st P 0 N kk) 1 N (P 9 0)) f N 12) 2 N (P 2 f)) 3 N (nI f)) 4 N tg) 5 N; rw [upd_ne (by omega), upd_ne (by omega), upd_ne (by omega), tks_o (by omega), c.2.2.2.2.1, st_ne1 (by decide), st_ne1 (by decide), st_ne1 (by decide), cps_row (by decide), st_ne1 (by decide), st_ne1 (by decide), hn.2]
      · show (upd (upd (upd (tks (cms s N kk (P 9 0)) N f 12) (42 + N) (P 2 f)) (62 + N) (nI f)) (102 + N) tg) (102 + N) = (st (st (st (cps (st (st P 0 N kk) 1 N (P 9 0)) f N 12) 2 N (P 2 f)) 3 N (nI f)) 4 N tg) 4 N; rw [upd_eq, st_eq]
    · show (upd (upd (upd (tks (cms s N kk (P 9 0)) N f 12) (42 + N) (P 2 f)) (62 + N) (nI f)) (102 + N) tg) (122 + 12 * N + k) = (st (st (st (cps (st (st P 0 N kk) 1 N (P 9 0)) f N 12) 2 N (P 2 f)) 3 N (nI f)) 4 N tg) 6 (N * 12 + k)
      rw [upd_ne (by omega), upd_ne (by omega), upd_ne (by omega), tks_at hk3, if_pos rfl, cms_o (by omega), st_ne1 (by decide), st_ne1 (by decide), st_ne1 (by decide), cps_at h20 hk3, if_pos rfl, st_ne1 (by decide), st_ne1 (by decide)]
      exact sim_slot hS hf hk3 (Or.inl hF)
  have simB := sim_time (v := P 9 0 + 1) (sim_prev (v := nI N) simA hf)
  have hfin : ∀ r : RSt, (∀ j, r j = upd (upd (upd (upd (upd (tks (cms s N kk (P 9 0)) N f 12) (42 + N) (P 2 f)) (62 + N) (nI f)) (102 + N) tg) (42 + f) (nI N)) 0 (P 9 0 + 1) j) → Sim (snp P f N kk tg) r := by
    intro r hr
    rw [show r = upd (upd (upd (upd (upd (tks (cms s N kk (P 9 0)) N f 12) (42 + N) (P 2 f)) (62 + N) (nI f)) (102 + N) tg) (42 + f) (nI N)) 0 (P 9 0 + 1) from funext hr]
    exact simB
  have ec := m_comes hS hN h20 kk (P 9 0)
  have et := m_takes (s := cms s N kk (P 9 0)) h20 hf (Ne.symm hfN)
  have ef : tks (cms s N kk (P 9 0)) N f 12 (42 + f) = P 2 f := by rw [tks_o (by omega), cms_o (by omega), e42]
  unfold xX8_snap
  rw [m_in, bn1_s, ← htg, if_pos (show (0 : Int32) ≤ nI k ∧ nI k ≤ 1 from in_k (n := 1) (by omega) (by decide)), if_neg one_ne, m_asked hS, bn1_s, if_pos hr, m_newThing hS hN, bn1_s, if_neg (show ¬ nI N = 20 from nI_ne_lit (b := 20) (by omega) (by omega) (by omega)), show (2 : Int32) + nI k = kk from (nI_addE 2 k).trans hkk, htg]
  simp (disch := omega) only [L0, L1, L2, L3, L4, L5, L8, L9, L10, L11, L12, L19, L20, L22, L40, L42, L60, L62, L82, L95, L96, L100, L102, L122, L240, L256, L362, L458, L554, L1000000000, L100000, Lm1, nI_addE, nI_mulE, nI_inj, nI_ltE, nI_leE, nI_clE, nI_m1, m1_nI, m1_lt, m1_le, nI_lt_m1, nI_le_m1, ix_nI, dT_le, dF_le, dT_lt, dF_lt, dT_eq, dF_eq, iT, iF, grd_t, lt1_s, bn1_s, bn2_s, bn3_s, bn4_s, bn5_s, nI_add0, e0, ec, et, ef]
  refine ⟨_, rfl, hfin _ (fun j => ?_)⟩
  show upd (upd (upd (upd (upd _ (42 + N) _) (42 + f) _) (62 + N) _) (102 + N) _) 0 _ j = upd (upd (upd (upd (upd _ (42 + N) _) (62 + N) _) (102 + N) _) (42 + f) _) 0 _ j
  have z0 : upd (upd (upd (upd (tks (cms s N kk (P 9 0)) N f 12) (42 + N) (P 2 f)) (42 + f) (nI N)) (62 + N) (nI f)) (102 + N) tg 0 + nI 1 = P 9 0 + 1 := by
    rw [upd_ne (by omega), upd_ne (by omega), upd_ne (by omega), upd_ne (by omega), tks_o (by omega), cms_o (by omega), e0]; rfl
  rw [z0]
  unfold upd
  by_cases j0 : j = 0
  · rw [if_pos j0, if_pos j0]
  · rw [if_neg j0, if_neg j0]
    by_cases j1 : j = 42 + f
    · rw [if_neg (by omega), if_neg (by omega), if_pos j1, if_pos j1]
    · rw [if_neg (c := j = 42 + f) j1, if_neg (c := j = 42 + f) j1]
theorem p_snap (h : Good P s n) (hn : n ≤ 1000) (x y : Int32) : ∃ r P' s', xX0_addSnapshot P x y = some (r, P') ∧ xX8_snap s x y = some (r, s') ∧ Good P' s' (n + 1) := by
  have hg := h.up (Nat.le_succ n)
  obtain ⟨hI, hS, ht⟩ := h
  rcases arg_ix y (n := 2) (by decide) with hy | ⟨k, hk, rfl⟩
  · refine ⟨-2, P, s, ?_, ?_, hg⟩
    · unfold xX0_addSnapshot
      by_cases h0 : y < 0
      · rw [if_pos h0]
      · rw [if_neg h0, if_neg]
        exact fun z => out_k (n := 1) (by decide) hy ⟨by rw [Int32.le_iff_toInt_le]; rw [Int32.lt_iff_toInt_lt] at h0; omega, z⟩
    · unfold xX8_snap
      rw [m_in, bn1_s, if_neg (show ¬ (0 ≤ y ∧ y ≤ 1) from out_k (n := 1) (by decide) hy), if_pos zero_eq]
  · have hin := in_k (k := k) (n := 1) (by omega) (by decide)
    by_cases hr : refA P x 0 = 0
    · obtain ⟨f, hf, rfl, hk2, hu⟩ := refA_ok hr
      have hF := isF_of hu
      generalize hN : fst1 (fun j => decide (P 0 j = m1)) 20 = N
      have hle : N ≤ 20 := hN ▸ fst1_le _ 20
      have hfN : f ≠ N := by
        intro z
        rcases Nat.lt_or_ge N 20 with w | w
        · exact hk2 (z ▸ fst_free hN w)
        · omega
      have ec : xX0_addSnapshot P (nI f) (nI k) = some (if N < 20 then (nI N, snp P f N (nI (2 + k)) (nI k)) else (-4, P)) := by
        unfold xX0_addSnapshot
        rw [if_neg (show ¬ nI k < 0 from nI_pos (by omega)), if_pos (show nI k ≤ 1 from hin.2), c_refA, bn1_s, if_pos hr]
        rcases (show k = 0 ∨ k = 1 by omega) with rfl | rfl
        · rw [if_neg (by decide)]; exact c_snap42 hf hN hfN
        · rw [if_pos (show nI 1 = 1 from rfl)]; exact c_snap42 hf hN hfN
      by_cases h20 : N < 20
      · obtain ⟨s', em, hS'⟩ := p_snapM hI hS hf hF hk hN h20 hr
        rw [if_pos h20] at ec
        have h3 := hI.2.2.2.2.2.2.2.2.2.2.2.2.2
        refine ⟨_, _, s', ec, em, A_snap hI hf h20 (fst_free hN h20) hF ?_ (by omega), hS', ?_⟩
        · rcases (show k = 0 ∨ k = 1 by omega) with rfl | rfl
          · exact Or.inl rfl
          · exact Or.inr rfl
        · show (snp P f N _ _ 9 0).toInt ≤ _
          unfold snp
          rw [st_eq, tm_add (by omega) h3]
          omega
      · have : N = 20 := by omega
        subst this
        rw [if_neg h20] at ec
        refine ⟨_, _, s, ec, ?_, hg⟩
        unfold xX8_snap
        rw [m_in, bn1_s, if_pos (show (0 : Int32) ≤ nI k ∧ nI k ≤ 1 from hin), if_neg one_ne, m_asked hS, bn1_s, if_pos hr, m_newThing hS hN, bn1_s, if_pos (show nI 20 = 20 from rfl)]
    · refine ⟨refA P x 0, P, s, ?_, ?_, hg⟩
      · unfold xX0_addSnapshot
        rw [if_neg (show ¬ nI k < 0 from nI_pos (by omega)), if_pos (show nI k ≤ 1 from hin.2), c_refA, bn1_s, if_neg hr]
      · unfold xX8_snap
        rw [m_in, bn1_s, if_pos (show (0 : Int32) ≤ nI k ∧ nI k ≤ 1 from hin), if_neg one_ne, m_asked hS, bn1_s, if_neg hr]
end
