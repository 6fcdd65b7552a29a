theorem lw_sub {L : Nat} (h5 : 5 ≤ L) : Int32.ofNat L - 5 = nI (L - 5) := nI_subE (a := L) (b := 5) h5
theorem lw_neg {L : Nat} (h5 : L < 5) : Int32.ofNat L - 5 < 0 := by
  rcases (show L = 0 ∨ L = 1 ∨ L = 2 ∨ L = 3 ∨ L = 4 by omega) with e | e | e | e | e <;> subst e <;> decide
theorem lw_cmp {L n : Nat} {x : Int32} (hL : L ≤ 3000) (hn : n ≤ 600) (ex : x = nI (5 * n)) : (Int32.ofNat L - 5 < x) ↔ L < 5 * n + 5 := by
  subst ex
  rcases Nat.lt_or_ge L 5 with h | h
  · constructor
    · intro _
      omega
    · intro _
      have h1 := lw_neg h
      have h2 := nI_pos (n := 5 * n) (by omega)
      rw [Int32.lt_iff_toInt_lt] at h1 h2 ⊢
      omega
  · rw [lw_sub h, nI_ltE (by omega) (by omega)]
    omega
theorem lw_over {L n : Nat} {x : Int32} (hn : n ≤ 600) (h : L ≤ 5 * n) (ex : x = nI (5 * n)) : Int32.ofNat L - 5 < x := (lw_cmp (by omega) hn ex).mpr (by omega)
theorem lw_under {L n : Nat} {x : Int32} (hL : L ≤ 3000) (hn : n ≤ 600) (ex : x = nI (5 * n)) (h : ¬ Int32.ofNat L - 5 < x) : 5 * n + 5 ≤ L := by
  rcases Nat.lt_or_ge L (5 * n + 5) with w | w
  · exact absurd ((lw_cmp hL hn ex).mpr w) h
  · exact w
theorem lw_in {L n j : Nat} {x : Int32} (hL : L ≤ 2560) (ex : x = nI (5 * n)) (h : 5 * n + j < L) : vp_in (x + nI j) L := by
  rw [ex, nI_addE]
  exact vp_in_nI h (by omega)
set_option maxRecDepth 100000 in
set_option maxHeartbeats 4000000 in
theorem law_loop {p : Program} {l : Launch} {e : Env} {s : State} {m : MethodId} {below : List Frame} {meth : Method} {c : Code} {b L : Nat} {xs : Nat → Int32} (hL : L ≤ 2560) (C0 : lw_At p s m meth c b L xs) {D : va_G} {k : Nat → ClassId} (hK : va_K D vwCl (kTy k) s) {dd : Nat → Nat} {aa : Nat → Nat} {ab : Nat → Nat} {ac : Nat → Nat} {ah : Nat → Nat} {ca : Nat → Nat} {ga : Nat → Nat} {ta : Nat → Nat} {tb : Nat → Nat} {tc : Nat → Nat} {td : Nat → Nat} {nb : Nat} {nv : Nat} {no : Nat} {nd : Nat} {gm : Nat → Nat} : ∀ (N n : Nat) (x3 : Int32) (P : Nat → Nat → Int32) (T : Nat → Nat → Int32) (K : Nat → Nat → Int32) (X : Nat → Int32) (Y : Nat → Int32) (C : Nat → Int32) (F : Nat → Int64) (zz : Int32) (SO : Nat → Int32) (LE : Nat → Int32) (RO : Nat → Nat → Int64) (hi : Int32) (s0 : Nat → Int32) (im : Nat → Int32) (fr : Nat → Int32) (hd : Nat → Int32) (nw : Nat → Int32) (hh : Nat → Int32) (qs : Nat → Int32) (qz : Nat → Int32) (it : Nat → Int64) (th : Int32) (hm : Int32) (ow : Int32) (lo : Int32), L ≤ 5 * (n + N) → n ≤ 513 → x3 = nI (5 * n) → LI n P K hi SO LE RO s0 im hm qs qz it → ∀ (H : Heap) (locs : List Loc), va_P D vwCl (wLaw k dd aa ab ac ah ca ga ta tb tc td nb nv no nd gm P T K X Y C F zz SO LE RO hi s0 im fr hd nw hh qs qz it th hm ow lo) H → va_D (fun q : Nat => s.heap.size ≤ q) (wLaw k dd aa ab ac ah ca ga ta tb tc td nb nv no nd gm P T K X Y C F zz SO LE RO hi s0 im fr hd nw hh qs qz it th hm ow lo) → va_S (fun q : Nat => s.heap.size ≤ q) s.heap H locs → ∀ ls : Array Slot, lv_has ls 4 [(0, .ref b), (1, .ref (dd 0)), (2, .ref (gm 0)), (3, .int x3)] → W p l e room_1 s m #[Value.ref b] below meth c H locs 61 4399 (lw_Z below #[Value.ref b] s) (F0 m 18 ls []) := by
  have C1 := C0
  obtain ⟨hx, hb, hr, hml, hown, hts, hX, hbl, hlocks, hgv⟩ := C1
  have hA : ∀ q : Nat, s.heap.size ≤ q → (fun q : Nat => s.heap.size ≤ q) q := fun _ h => h
  have hbA : ¬ (fun q : Nat => s.heap.size ≤ q) b := Nat.not_le.mpr hbl
  intro N
  induction N with
  | zero =>
    intro n x3 P T K X Y C F zz SO LE RO hi s0 im fr hd nw hh qs qz it th hm ow lo hLn hn ex hI H locs hP hD hS ls hl
    refine lv_iload_n hx hb dL_law_18 rfl (lv_at hl 3 rfl) ?_
    refine lv_aload_n hx hb dL_law_19 rfl (lv_at hl 0 rfl) ?_
    refine va_slen hx hb hX hbl hbA hS dL_law_20 ?_
    refine lv_iconst (v := 5) hx hb dL_law_21 (by decide) ?_
    refine lv_isub hx hb dL_law_22 ?_
    refine lv_icmp_gt (tgt := 1301) hx hb dL_law_23 (by decide) (fun c1 => ?_) (fun c1 => ?_)
    · refine lv_iconst (v := 1) hx hb dL_law_1301 (by decide) ?_
      refine va_forget (fun q hq => hS.2.2 q hq) ?_
      refine W.widen (k := 600000) (n := 7302250) (Nat.le_of_ble_eq_true rfl) (Nat.le_of_ble_eq_true rfl) ?_
      exact lw_ret hx hb hr hlocks dL_law_1302
    · exact absurd (lw_over (by omega) (by omega) ex) c1
  | succ N ih =>
    intro n x3 P T K X Y C F zz SO LE RO hi s0 im fr hd nw hh qs qz it th hm ow lo hLn hn ex hI H locs hP hD hS ls hl
    refine lv_iload_n hx hb dL_law_18 rfl (lv_at hl 3 rfl) ?_
    refine lv_aload_n hx hb dL_law_19 rfl (lv_at hl 0 rfl) ?_
    refine va_slen hx hb hX hbl hbA hS dL_law_20 ?_
    refine lv_iconst (v := 5) hx hb dL_law_21 (by decide) ?_
    refine lv_isub hx hb dL_law_22 ?_
    refine lv_icmp_gt (tgt := 1301) hx hb dL_law_23 (by decide) (fun c1 => ?_) (fun c1 => ?_)
    · refine lv_iconst (v := 1) hx hb dL_law_1301 (by decide) ?_
      refine va_forget (fun q hq => hS.2.2 q hq) ?_
      refine W.widen (k := 600000) (n := 7302250) (Nat.le_of_ble_eq_true rfl) (Nat.le_of_ble_eq_true rfl) ?_
      exact lw_ret hx hb hr hlocks dL_law_1302
    · have hi5 : 5 * n + 5 ≤ L := lw_under (by omega) (by omega) ex c1
      have h0 : vp_in x3 L := by rw [ex]; exact vp_in_nI (by omega) (by omega)
      have h1 : vp_in (x3 + 1) L := lw_in (j := 1) hL ex (by omega)
      have h2 : vp_in (x3 + 2) L := lw_in (j := 2) hL ex (by omega)
      have h3 : vp_in (x3 + 3) L := lw_in (j := 3) hL ex (by omega)
      have h4 : vp_in (x3 + 4) L := lw_in (j := 4) hL ex (by omega)
      have kk : LKK p l e s m below meth c b D k dd aa ab ac ah ca ga ta tb tc td nb nv no nd gm n x3 := fun P T K X Y C F zz SO LE RO hi s0 im fr hd nw hh qs qz it th hm ow lo hI H locs hP hD hS ls hl => by
        refine lv_iinc (v := x3 + 5) (lv' := [(3, .int (x3 + 5)), (0, .ref b), (1, .ref (dd 0)), (2, .ref (gm 0))]) hx hb dL_law_1295 hl (k := 3) rfl rfl (by decide) rfl (fun ls hl => ?_)
        refine lv_goto (tgt := 18) hx hb dL_law_1298 (by decide) ?_
        exact ih (n + 1) (x3 + 5) P T K X Y C F zz SO LE RO hi s0 im fr hd nw hh qs qz it th hm ow lo (by omega) (by omega) (by rw [ex]; exact nI_addE (5 * n) 5) hI H locs hP hD hS ls (lv_sub hl [1, 2, 3, 0] rfl)
      refine lv_aload_n hx hb dL_law_26 rfl (lv_at hl 0 rfl) ?_
      refine lv_iload_n hx hb dL_law_27 rfl (lv_at hl 3 rfl) ?_
      refine va_sld hx hb hX hbl hbA hS h0 dL_law_28 ?_
      refine lv_bipush (v := 63) hx hb dL_law_29 (by decide) ?_
      refine lv_iand hx hb dL_law_31 ?_
      generalize xs (Int32.toNatClampNeg x3) &&& 63 = v
      by_cases c2 : v = 0
      · refine lv_tableIn (off := 152) (tgt := 184) hx hb dL_law_32 (by rw [c2]; decide) (by rw [c2]; decide) (by rw [c2]; rfl) (by decide) ?_
        exact law_files C0 hK (by omega) hI h1 h2 h3 h4 hP hD hS hl kk
      by_cases c3 : v = 1
      · refine lv_tableIn (off := 175) (tgt := 207) hx hb dL_law_32 (by rw [c3]; decide) (by rw [c3]; decide) (by rw [c3]; rfl) (by decide) ?_
        exact law_write C0 hK (by omega) hI h1 h2 h3 h4 hP hD hS hl kk
      by_cases c4 : v = 2
      · refine lv_tableIn (off := 218) (tgt := 250) hx hb dL_law_32 (by rw [c4]; decide) (by rw [c4]; decide) (by rw [c4]; rfl) (by decide) ?_
        exact law_erase C0 hK (by omega) hI h1 h2 h3 h4 hP hD hS hl kk
      by_cases c5 : v = 3
      · refine lv_tableIn (off := 251) (tgt := 283) hx hb dL_law_32 (by rw [c5]; decide) (by rw [c5]; decide) (by rw [c5]; rfl) (by decide) ?_
        exact law_snap C0 hK (by omega) hI h1 h2 h3 h4 hP hD hS hl kk
      by_cases c6 : v = 4
      · refine lv_tableIn (off := 284) (tgt := 316) hx hb dL_law_32 (by rw [c6]; decide) (by rw [c6]; decide) (by rw [c6]; rfl) (by decide) ?_
        exact law_tag C0 hK (by omega) hI h1 h2 h3 h4 hP hD hS hl kk
      by_cases c7 : v = 5
      · refine lv_tableIn (off := 317) (tgt := 349) hx hb dL_law_32 (by rw [c7]; decide) (by rw [c7]; decide) (by rw [c7]; rfl) (by decide) ?_
        exact law_mark C0 hK (by omega) hI h1 h2 h3 h4 hP hD hS hl kk
      by_cases c8 : v = 6
      · refine lv_tableIn (off := 340) (tgt := 372) hx hb dL_law_32 (by rw [c8]; decide) (by rw [c8]; decide) (by rw [c8]; rfl) (by decide) ?_
        exact law_remove C0 hK (by omega) hI h1 h2 h3 h4 hP hD hS hl kk
      by_cases c9 : v = 7
      · refine lv_tableIn (off := 363) (tgt := 395) hx hb dL_law_32 (by rw [c9]; decide) (by rw [c9]; decide) (by rw [c9]; rfl) (by decide) ?_
        exact law_fork C0 hK (by omega) hI h1 h2 h3 h4 hP hD hS hl kk
      by_cases c10 : v = 8
      · refine lv_tableIn (off := 386) (tgt := 418) hx hb dL_law_32 (by rw [c10]; decide) (by rw [c10]; decide) (by rw [c10]; rfl) (by decide) ?_
        exact law_promote C0 hK (by omega) hI h1 h2 h3 h4 hP hD hS hl kk
      by_cases c11 : v = 9
      · refine lv_tableIn (off := 409) (tgt := 441) hx hb dL_law_32 (by rw [c11]; decide) (by rw [c11]; decide) (by rw [c11]; rfl) (by decide) ?_
        exact law_rollback C0 hK (by omega) hI h1 h2 h3 h4 hP hD hS hl kk
      by_cases c12 : v = 10
      · refine lv_tableIn (off := 432) (tgt := 464) hx hb dL_law_32 (by rw [c12]; decide) (by rw [c12]; decide) (by rw [c12]; rfl) (by decide) ?_
        exact law_tick C0 hK (by omega) hI h1 h2 h3 h4 hP hD hS hl kk
      by_cases c13 : v = 11
      · refine lv_tableIn (off := 445) (tgt := 477) hx hb dL_law_32 (by rw [c13]; decide) (by rw [c13]; decide) (by rw [c13]; rfl) (by decide) ?_
        exact law_told C0 hK (by omega) hI h1 h2 h3 h4 hP hD hS hl kk
      by_cases c14 : v = 12
      · refine lv_tableIn (off := 478) (tgt := 510) hx hb dL_law_32 (by rw [c14]; decide) (by rw [c14]; decide) (by rw [c14]; rfl) (by decide) ?_
        exact law_slot C0 hK (by omega) hI h1 h2 h3 h4 hP hD hS hl kk
      by_cases c15 : v = 13
      · refine lv_tableIn (off := 511) (tgt := 543) hx hb dL_law_32 (by rw [c15]; decide) (by rw [c15]; decide) (by rw [c15]; rfl) (by decide) ?_
        exact law_block C0 hK (by omega) hI h1 h2 h3 h4 hP hD hS hl kk
      by_cases c16 : v = 14
      · refine lv_tableIn (off := 544) (tgt := 576) hx hb dL_law_32 (by rw [c16]; decide) (by rw [c16]; decide) (by rw [c16]; rfl) (by decide) ?_
        exact law_taken C0 hK (by omega) hI h1 h2 h3 h4 hP hD hS hl kk
      by_cases c17 : v = 15
      · refine lv_tableIn (off := 577) (tgt := 609) hx hb dL_law_32 (by rw [c17]; decide) (by rw [c17]; decide) (by rw [c17]; rfl) (by decide) ?_
        exact law_dead C0 hK (by omega) hI h1 h2 h3 h4 hP hD hS hl kk
      by_cases c18 : v = 16
      · refine lv_tableIn (off := 610) (tgt := 642) hx hb dL_law_32 (by rw [c18]; decide) (by rw [c18]; decide) (by rw [c18]; rfl) (by decide) ?_
        exact law_deadList C0 hK (by omega) hI h1 h2 h3 h4 hP hD hS hl kk
      by_cases c19 : v = 17
      · refine lv_tableIn (off := 644) (tgt := 676) hx hb dL_law_32 (by rw [c19]; decide) (by rw [c19]; decide) (by rw [c19]; rfl) (by decide) ?_
        exact law_space C0 hK (by omega) hI h1 h2 h3 h4 hP hD hS hl kk
      by_cases c20 : v = 18
      · refine lv_tableIn (off := 668) (tgt := 700) hx hb dL_law_32 (by rw [c20]; decide) (by rw [c20]; decide) (by rw [c20]; rfl) (by decide) ?_
        exact law_alone C0 hK (by omega) hI h1 h2 h3 h4 hP hD hS hl kk
      by_cases c21 : v = 19
      · refine lv_tableIn (off := 692) (tgt := 724) hx hb dL_law_32 (by rw [c21]; decide) (by rw [c21]; decide) (by rw [c21]; rfl) (by decide) ?_
        exact law_range C0 hK (by omega) hI h1 h2 h3 h4 hP hD hS hl kk
      by_cases c22 : v = 20
      · refine lv_tableIn (off := 726) (tgt := 758) hx hb dL_law_32 (by rw [c22]; decide) (by rw [c22]; decide) (by rw [c22]; rfl) (by decide) ?_
        exact law_since C0 hK (by omega) hI h1 h2 h3 h4 hP hD hS hl kk
      by_cases c23 : v = 21
      · refine lv_tableIn (off := 760) (tgt := 792) hx hb dL_law_32 (by rw [c23]; decide) (by rw [c23]; decide) (by rw [c23]; rfl) (by decide) ?_
        exact law_common C0 hK (by omega) hI h1 h2 h3 h4 hP hD hS hl kk
      by_cases c24 : v = 22
      · refine lv_tableIn (off := 794) (tgt := 826) hx hb dL_law_32 (by rw [c24]; decide) (by rw [c24]; decide) (by rw [c24]; rfl) (by decide) ?_
        exact law_most C0 hK (by omega) hI h1 h2 h3 h4 hP hD hS hl kk
      by_cases c25 : v = 23
      · refine lv_tableIn (off := 828) (tgt := 860) hx hb dL_law_32 (by rw [c25]; decide) (by rw [c25]; decide) (by rw [c25]; rfl) (by decide) ?_
        exact law_fewest C0 hK (by omega) hI h1 h2 h3 h4 hP hD hS hl kk
      by_cases c26 : v = 24
      · refine lv_tableIn (off := 891) (tgt := 923) hx hb dL_law_32 (by rw [c26]; decide) (by rw [c26]; decide) (by rw [c26]; rfl) (by decide) ?_
        exact law_expire C0 hK (by omega) hI h1 h2 h3 h4 hP hD hS hl kk
      by_cases c27 : v = 25
      · refine lv_tableIn (off := 934) (tgt := 966) hx hb dL_law_32 (by rw [c27]; decide) (by rw [c27]; decide) (by rw [c27]; rfl) (by decide) ?_
        exact law_sheet C0 hK (by omega) hI h1 h2 h3 h4 hP hD hS hl kk
      by_cases c28 : v = 26
      · refine lv_tableIn (off := 977) (tgt := 1009) hx hb dL_law_32 (by rw [c28]; decide) (by rw [c28]; decide) (by rw [c28]; rfl) (by decide) ?_
        exact law_cell C0 hK (by omega) hI h1 h2 h3 h4 hP hD hS hl kk
      by_cases c29 : v = 27
      · refine lv_tableIn (off := 1050) (tgt := 1082) hx hb dL_law_32 (by rw [c29]; decide) (by rw [c29]; decide) (by rw [c29]; rfl) (by decide) ?_
        exact law_item C0 hK (by omega) hI h1 h2 h3 h4 hP hD hS hl kk
      by_cases c30 : v = 28
      · refine lv_tableIn (off := 1084) (tgt := 1116) hx hb dL_law_32 (by rw [c30]; decide) (by rw [c30]; decide) (by rw [c30]; rfl) (by decide) ?_
        exact law_differ C0 hK (by omega) hI h1 h2 h3 h4 hP hD hS hl kk
      by_cases c31 : v = 29
      · refine lv_tableIn (off := 1127) (tgt := 1159) hx hb dL_law_32 (by rw [c31]; decide) (by rw [c31]; decide) (by rw [c31]; rfl) (by decide) ?_
        exact law_apply C0 hK (by omega) hI h1 h2 h3 h4 hP hD hS hl kk
      by_cases c32 : v = 30
      · refine lv_tableIn (off := 1170) (tgt := 1202) hx hb dL_law_32 (by rw [c32]; decide) (by rw [c32]; decide) (by rw [c32]; rfl) (by decide) ?_
        exact law_drawn C0 hK (by omega) hI h1 h2 h3 h4 hP hD hS hl kk
      by_cases c33 : v = 31
      · refine lv_tableIn (off := 1214) (tgt := 1246) hx hb dL_law_32 (by rw [c33]; decide) (by rw [c33]; decide) (by rw [c33]; rfl) (by decide) ?_
        exact law_image C0 hK (by omega) hI h1 h2 h3 h4 hP hD hS hl kk
      by_cases c34 : v = 32
      · refine lv_tableIn (off := 1227) (tgt := 1259) hx hb dL_law_32 (by rw [c34]; decide) (by rw [c34]; decide) (by rw [c34]; rfl) (by decide) ?_
        exact law_back C0 hK (by omega) hI h1 h2 h3 h4 hP hD hS hl kk
      by_cases c35 : v = 33
      · refine lv_tableIn (off := 1240) (tgt := 1272) hx hb dL_law_32 (by rw [c35]; decide) (by rw [c35]; decide) (by rw [c35]; rfl) (by decide) ?_
        exact law_count C0 hK (by omega) hI h1 h2 h3 h4 hP hD hS hl kk
      have t0 : Int32.toInt v ≠ 0 := fun z => c2 (Int32.toInt_inj.mp z)
      have t1 : Int32.toInt v ≠ 1 := fun z => c3 (Int32.toInt_inj.mp z)
      have t2 : Int32.toInt v ≠ 2 := fun z => c4 (Int32.toInt_inj.mp z)
      have t3 : Int32.toInt v ≠ 3 := fun z => c5 (Int32.toInt_inj.mp z)
      have t4 : Int32.toInt v ≠ 4 := fun z => c6 (Int32.toInt_inj.mp z)
      have t5 : Int32.toInt v ≠ 5 := fun z => c7 (Int32.toInt_inj.mp z)
      have t6 : Int32.toInt v ≠ 6 := fun z => c8 (Int32.toInt_inj.mp z)
      have t7 : Int32.toInt v ≠ 7 := fun z => c9 (Int32.toInt_inj.mp z)
      have t8 : Int32.toInt v ≠ 8 := fun z => c10 (Int32.toInt_inj.mp z)
      have t9 : Int32.toInt v ≠ 9 := fun z => c11 (Int32.toInt_inj.mp z)
      have t10 : Int32.toInt v ≠ 10 := fun z => c12 (Int32.toInt_inj.mp z)
      have t11 : Int32.toInt v ≠ 11 := fun z => c13 (Int32.toInt_inj.mp z)
      have t12 : Int32.toInt v ≠ 12 := fun z => c14 (Int32.toInt_inj.mp z)
      have t13 : Int32.toInt v ≠ 13 := fun z => c15 (Int32.toInt_inj.mp z)
      have t14 : Int32.toInt v ≠ 14 := fun z => c16 (Int32.toInt_inj.mp z)
      have t15 : Int32.toInt v ≠ 15 := fun z => c17 (Int32.toInt_inj.mp z)
      have t16 : Int32.toInt v ≠ 16 := fun z => c18 (Int32.toInt_inj.mp z)
      have t17 : Int32.toInt v ≠ 17 := fun z => c19 (Int32.toInt_inj.mp z)
      have t18 : Int32.toInt v ≠ 18 := fun z => c20 (Int32.toInt_inj.mp z)
      have t19 : Int32.toInt v ≠ 19 := fun z => c21 (Int32.toInt_inj.mp z)
      have t20 : Int32.toInt v ≠ 20 := fun z => c22 (Int32.toInt_inj.mp z)
      have t21 : Int32.toInt v ≠ 21 := fun z => c23 (Int32.toInt_inj.mp z)
      have t22 : Int32.toInt v ≠ 22 := fun z => c24 (Int32.toInt_inj.mp z)
      have t23 : Int32.toInt v ≠ 23 := fun z => c25 (Int32.toInt_inj.mp z)
      have t24 : Int32.toInt v ≠ 24 := fun z => c26 (Int32.toInt_inj.mp z)
      have t25 : Int32.toInt v ≠ 25 := fun z => c27 (Int32.toInt_inj.mp z)
      have t26 : Int32.toInt v ≠ 26 := fun z => c28 (Int32.toInt_inj.mp z)
      have t27 : Int32.toInt v ≠ 27 := fun z => c29 (Int32.toInt_inj.mp z)
      have t28 : Int32.toInt v ≠ 28 := fun z => c30 (Int32.toInt_inj.mp z)
      have t29 : Int32.toInt v ≠ 29 := fun z => c31 (Int32.toInt_inj.mp z)
      have t30 : Int32.toInt v ≠ 30 := fun z => c32 (Int32.toInt_inj.mp z)
      have t31 : Int32.toInt v ≠ 31 := fun z => c33 (Int32.toInt_inj.mp z)
      have t32 : Int32.toInt v ≠ 32 := fun z => c34 (Int32.toInt_inj.mp z)
      have t33 : Int32.toInt v ≠ 33 := fun z => c35 (Int32.toInt_inj.mp z)
      refine lv_tableOut (tgt := 1295) hx hb dL_law_32 (by omega) (by decide) ?_
      exact kk P T K X Y C F zz SO LE RO hi s0 im fr hd nw hh qs qz it th hm ow lo (hI.up (by omega)) H locs hP hD hS ls hl
