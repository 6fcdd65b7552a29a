set_option maxRecDepth 100000 in
set_option maxHeartbeats 4000000 in
theorem law_alone {p : Program} {l : Launch} {e : Env} {s : State} {m : MethodId} {below : List Frame} {meth : Method} {c : Code} {b L : Nat} {xs : Nat → Int32} (C0 : lw_At p s m meth c b L xs) {D : va_G} {k : Nat → ClassId} (hK : va_K D vwCl (kTy k) s) {dd : Nat → Nat} {aa : Nat → Nat} {ab : Nat → Nat} {ac : Nat → Nat} {ah : Nat → Nat} {ca : Nat → Nat} {ga : Nat → Nat} {ta : Nat → Nat} {tb : Nat → Nat} {tc : Nat → Nat} {td : Nat → Nat} {nb : Nat} {nv : Nat} {no : Nat} {nd : Nat} {gm : Nat → Nat} {P : Nat → Nat → Int32} {T : Nat → Nat → Int32} {K : Nat → Nat → Int32} {X : Nat → Int32} {Y : Nat → Int32} {C : Nat → Int32} {F : Nat → Int64} {zz : Int32} {SO : Nat → Int32} {LE : Nat → Int32} {RO : Nat → Nat → Int64} {hi : Int32} {s0 : Nat → Int32} {im : Nat → Int32} {fr : Nat → Int32} {hd : Nat → Int32} {nw : Nat → Int32} {hh : Nat → Int32} {qs : Nat → Int32} {qz : Nat → Int32} {it : Nat → Int64} {th : Int32} {hm : Int32} {ow : Int32} {lo : Int32} {n : Nat} (hn : n ≤ 600) (hI : LI n P K hi SO LE RO s0 im hm qs qz it) {x3 : Int32} (h1 : vp_in (x3 + 1) L) (h2 : vp_in (x3 + 2) L) (h3 : vp_in (x3 + 3) L) (h4 : vp_in (x3 + 4) L) {H : Heap} {locs : List Loc} (hP : va_P D vwCl (wLaw k dd aa ab ac ah ca ga ta tb tc td nb nv no nd gm P T K X Y C F zz SO LE RO hi s0 im fr hd nw hh qs qz it th hm ow lo) H) (hD : va_D (fun q : Nat => s.heap.size ≤ q) (wLaw k dd aa ab ac ah ca ga ta tb tc td nb nv no nd gm P T K X Y C F zz SO LE RO hi s0 im fr hd nw hh qs qz it th hm ow lo)) (hS : va_S (fun q : Nat => s.heap.size ≤ q) s.heap H locs) {ls : Array Slot} (hl : lv_has ls 4 [(0, .ref b), (1, .ref (dd 0)), (2, .ref (gm 0)), (3, .int x3)]) (kk : LKK p l e s m below meth c b D k dd aa ab ac ah ca ga ta tb tc td nb nv no nd gm n x3) : W p l e room_1 s m #[Value.ref b] below meth c H locs 61 4399 (lw_Z below #[Value.ref b] s) (F0 m 700 ls []) := by
  obtain ⟨hx, hb, hr, hml, hown, hts, hX, hbl, hlocks, hgv⟩ := C0
  have hown : s.vm.findClass RL = some m.cls := hown
  have htsL : ∀ w ∈ wsL_law, w.before #[Value.ref b] s = true := fun w h => hts w (wsL_law_in w h)
  have hA : ∀ q : Nat, s.heap.size ≤ q → (fun q : Nat => s.heap.size ≤ q) q := fun _ h => h
  have hbA : ¬ (fun q : Nat => s.heap.size ≤ q) b := Nat.not_le.mpr hbl
  obtain ⟨r, X', hd', e7, e8, hI'⟩ := lc_alone hn P T K X Y C F zz SO LE RO hi s0 im fr hd nw hh qs qz it th hm ow lo hI (xs (Int32.toNatClampNeg (x3 + 1)))
  refine lv_aload_n hx hb dL_law_700 rfl (lv_at hl 1 rfl) ?_
  refine lv_aload_n hx hb dL_law_701 rfl (lv_at hl 0 rfl) ?_
  refine lv_iload_n hx hb dL_law_702 rfl (lv_at hl 3 rfl) ?_
  refine lv_iconst (v := 1) hx hb dL_law_703 (by decide) ?_
  refine lv_iadd hx hb dL_law_704 ?_
  refine va_sld hx hb hX hbl hbA hS h1 dL_law_705 ?_
  refine cVl (wf := (wLaw k dd aa ab ac ah ca ga ta tb tc td nb nv no nd gm P T K X' Y C F zz SO LE RO hi s0 im fr hd nw hh qs qz it th hm ow lo)) (As := [.int (xs (Int32.toNatClampNeg (x3 + 1)))]) (rest := []) ⟨hx, hb, hml, hown, htsL⟩ hK hA hP hD hS (mX7_alone l D k dd aa ab ac ah ca ga ta tb tc td nb nv no nd (P := P) (T := T) (K := K) (X_0 := X) (Y := Y) (C := C) (F := F) (z := zz) (SO := SO) (LE := LE) (RO := RO) (hi := hi) e7) (cwV 1 htsL gL_law_X7_alone rfl rfl rfl kX7_alone ⟨(Nat.le_of_ble_eq_true rfl), (Nat.le_of_ble_eq_true rfl)⟩) [0, 1, 2, 3, 4, 5, 6, 7, 8, 9, 10, 11, 12, 13, 14, 15, 16, 17, 18, 19, 20, 21, 22, 23, 24, 25, 26, 27, 28, 29, 30, 31, 32, 33, 34, 35, 36, 37, 38, 39, 40, 41, 42, 43, 44, 45, 46, 47, 48, 49, 50] rfl rfl rfl [false, false, false, false, false, false, false, false, false, false, false, false, false, false, false, false, false, false, false, false, false, false, false, false, false, false, false, false, false, false, false, false, false, false, false, false, false, false, false, false, false, false, false, false, false, false, false, false, false, false, false, true, true, true, true, true, true, true, true, true, true] ⟨rfl, rfl, rfl, rfl, rfl, rfl, rfl, rfl, rfl, rfl, trivial⟩ 61 rfl (by decide +kernel) rfl 0 rfl rfl rfl hl.1 rfl (Nat.le_of_ble_eq_true rfl) ⟨(Nat.le_of_ble_eq_true rfl), (Nat.le_of_ble_eq_true rfl)⟩ dL_law_706 (fun H locs hP hD hS => ?_)
  refine lv_aload_n hx hb dL_law_709 rfl (lv_at hl 2 rfl) ?_
  refine lv_aload_n hx hb dL_law_710 rfl (lv_at hl 0 rfl) ?_
  refine lv_iload_n hx hb dL_law_711 rfl (lv_at hl 3 rfl) ?_
  refine lv_iconst (v := 1) hx hb dL_law_712 (by decide) ?_
  refine lv_iadd hx hb dL_law_713 ?_
  refine va_sld hx hb hX hbl hbA hS h1 dL_law_714 ?_
  refine cVl (wf := (wLaw k dd aa ab ac ah ca ga ta tb tc td nb nv no nd gm P T K X' Y C F zz SO LE RO hi s0 im fr hd' nw hh qs qz it th hm ow lo)) (As := [.int (xs (Int32.toNatClampNeg (x3 + 1)))]) (rest := [.long r]) ⟨hx, hb, hml, hown, htsL⟩ hK hA hP hD hS (mX8_alone l D k gm (s := s0) (im := im) (fr := fr) (hd_0 := hd) (nw := nw) (hh := hh) (qs := qs) (qz := qz) (it := it) (th := th) (hm := hm) (ow := ow) (lo := lo) e8) (cwV 1 htsL gL_law_X8_alone rfl rfl rfl kX8_alone ⟨(Nat.le_of_ble_eq_true rfl), (Nat.le_of_ble_eq_true rfl)⟩) [51, 52, 53, 54, 55, 56, 57, 58, 59, 60] rfl rfl rfl [true, true, true, true, true, true, true, true, true, true, true, true, true, true, true, true, true, true, true, true, true, true, true, true, true, true, true, true, true, true, true, true, true, true, true, true, true, true, true, true, true, true, true, true, true, true, true, true, true, true, true, false, false, false, false, false, false, false, false, false, false] ⟨rfl, rfl, rfl, rfl, rfl, rfl, rfl, rfl, rfl, rfl, rfl, rfl, rfl, rfl, rfl, rfl, rfl, rfl, rfl, rfl, rfl, rfl, rfl, rfl, rfl, rfl, rfl, rfl, rfl, rfl, rfl, rfl, rfl, rfl, rfl, rfl, rfl, rfl, rfl, rfl, rfl, rfl, rfl, rfl, rfl, rfl, rfl, rfl, rfl, rfl, rfl, trivial⟩ 61 rfl (by decide +kernel) rfl 0 rfl rfl rfl hl.1 rfl (Nat.le_of_ble_eq_true rfl) ⟨(Nat.le_of_ble_eq_true rfl), (Nat.le_of_ble_eq_true rfl)⟩ dL_law_715 (fun H locs hP hD hS => ?_)
  refine W.lcmp hx hb dL_law_718 ?_
  refine lv_if_eq (tgt := 1295) hx hb dL_law_719 (by decide) (fun _ => ?_) (fun c1 => absurd ((lg_cmp_eq r r).mpr rfl) c1)
  exact kk P T K X' Y C F zz SO LE RO hi s0 im fr hd' nw hh qs qz it th hm ow lo hI' H locs hP hD hS ls hl
set_option maxRecDepth 100000 in
set_option maxHeartbeats 4000000 in
theorem law_range {p : Program} {l : Launch} {e : Env} {s : State} {m : MethodId} {below : List Frame} {meth : Method} {c : Code} {b L : Nat} {xs : Nat → Int32} (C0 : lw_At p s m meth c b L xs) {D : va_G} {k : Nat → ClassId} (hK : va_K D vwCl (kTy k) s) {dd : Nat → Nat} {aa : Nat → Nat} {ab : Nat → Nat} {ac : Nat → Nat} {ah : Nat → Nat} {ca : Nat → Nat} {ga : Nat → Nat} {ta : Nat → Nat} {tb : Nat → Nat} {tc : Nat → Nat} {td : Nat → Nat} {nb : Nat} {nv : Nat} {no : Nat} {nd : Nat} {gm : Nat → Nat} {P : Nat → Nat → Int32} {T : Nat → Nat → Int32} {K : Nat → Nat → Int32} {X : Nat → Int32} {Y : Nat → Int32} {C : Nat → Int32} {F : Nat → Int64} {zz : Int32} {SO : Nat → Int32} {LE : Nat → Int32} {RO : Nat → Nat → Int64} {hi : Int32} {s0 : Nat → Int32} {im : Nat → Int32} {fr : Nat → Int32} {hd : Nat → Int32} {nw : Nat → Int32} {hh : Nat → Int32} {qs : Nat → Int32} {qz : Nat → Int32} {it : Nat → Int64} {th : Int32} {hm : Int32} {ow : Int32} {lo : Int32} {n : Nat} (hn : n ≤ 600) (hI : LI n P K hi SO LE RO s0 im hm qs qz it) {x3 : Int32} (h1 : vp_in (x3 + 1) L) (h2 : vp_in (x3 + 2) L) (h3 : vp_in (x3 + 3) L) (h4 : vp_in (x3 + 4) L) {H : Heap} {locs : List Loc} (hP : va_P D vwCl (wLaw k dd aa ab ac ah ca ga ta tb tc td nb nv no nd gm P T K X Y C F zz SO LE RO hi s0 im fr hd nw hh qs qz it th hm ow lo) H) (hD : va_D (fun q : Nat => s.heap.size ≤ q) (wLaw k dd aa ab ac ah ca ga ta tb tc td nb nv no nd gm P T K X Y C F zz SO LE RO hi s0 im fr hd nw hh qs qz it th hm ow lo)) (hS : va_S (fun q : Nat => s.heap.size ≤ q) s.heap H locs) {ls : Array Slot} (hl : lv_has ls 4 [(0, .ref b), (1, .ref (dd 0)), (2, .ref (gm 0)), (3, .int x3)]) (kk : LKK p l e s m below meth c b D k dd aa ab ac ah ca ga ta tb tc td nb nv no nd gm n x3) : W p l e room_1 s m #[Value.ref b] below meth c H locs 61 4399 (lw_Z below #[Value.ref b] s) (F0 m 724 ls []) := by
  obtain ⟨hx, hb, hr, hml, hown, hts, hX, hbl, hlocks, hgv⟩ := C0
  have hown : s.vm.findClass RL = some m.cls := hown
  have htsL : ∀ w ∈ wsL_law, w.before #[Value.ref b] s = true := fun w h => hts w (wsL_law_in w h)
  have hA : ∀ q : Nat, s.heap.size ≤ q → (fun q : Nat => s.heap.size ≤ q) q := fun _ h => h
  have hbA : ¬ (fun q : Nat => s.heap.size ≤ q) b := Nat.not_le.mpr hbl
  obtain ⟨r, X', hd', e7, e8, hI'⟩ := lc_range hn P T K X Y C F zz SO LE RO hi s0 im fr hd nw hh qs qz it th hm ow lo hI (xs (Int32.toNatClampNeg (x3 + 1))) (xs (Int32.toNatClampNeg (x3 + 2)))
  refine lv_aload_n hx hb dL_law_724 rfl (lv_at hl 1 rfl) ?_
  refine lv_aload_n hx hb dL_law_725 rfl (lv_at hl 0 rfl) ?_
  refine lv_iload_n hx hb dL_law_726 rfl (lv_at hl 3 rfl) ?_
  refine lv_iconst (v := 1) hx hb dL_law_727 (by decide) ?_
  refine lv_iadd hx hb dL_law_728 ?_
  refine va_sld hx hb hX hbl hbA hS h1 dL_law_729 ?_
  refine lv_aload_n hx hb dL_law_730 rfl (lv_at hl 0 rfl) ?_
  refine lv_iload_n hx hb dL_law_731 rfl (lv_at hl 3 rfl) ?_
  refine lv_iconst (v := 2) hx hb dL_law_732 (by decide) ?_
  refine lv_iadd hx hb dL_law_733 ?_
  refine va_sld hx hb hX hbl hbA hS h2 dL_law_734 ?_
  refine cVl (wf := (wLaw k dd aa ab ac ah ca ga ta tb tc td nb nv no nd gm P T K X' Y C F zz SO LE RO hi s0 im fr hd nw hh qs qz it th hm ow lo)) (As := [.int (xs (Int32.toNatClampNeg (x3 + 1))), .int (xs (Int32.toNatClampNeg (x3 + 2)))]) (rest := []) ⟨hx, hb, hml, hown, htsL⟩ hK hA hP hD hS (mX7_range l D k dd aa ab ac ah ca ga ta tb tc td nb nv no nd (P := P) (T := T) (K := K) (X_0 := X) (Y := Y) (C := C) (F := F) (z := zz) (SO := SO) (LE := LE) (RO := RO) (hi := hi) e7) (cwV 2 htsL gL_law_X7_range rfl rfl rfl kX7_range ⟨(Nat.le_of_ble_eq_true rfl), (Nat.le_of_ble_eq_true rfl)⟩) [0, 1, 2, 3, 4, 5, 6, 7, 8, 9, 10, 11, 12, 13, 14, 15, 16, 17, 18, 19, 20, 21, 22, 23, 24, 25, 26, 27, 28, 29, 30, 31, 32, 33, 34, 35, 36, 37, 38, 39, 40, 41, 42, 43, 44, 45, 46, 47, 48, 49, 50] rfl rfl rfl [false, false, false, false, false, false, false, false, false, false, false, false, false, false, false, false, false, false, false, false, false, false, false, false, false, false, false, false, false, false, false, false, false, false, false, false, false, false, false, false, false, false, false, false, false, false, false, false, false, false, false, true, true, true, true, true, true, true, true, true, true] ⟨rfl, rfl, rfl, rfl, rfl, rfl, rfl, rfl, rfl, rfl, trivial⟩ 61 rfl (by decide +kernel) rfl 0 rfl rfl rfl hl.1 rfl (Nat.le_of_ble_eq_true rfl) ⟨(Nat.le_of_ble_eq_true rfl), (Nat.le_of_ble_eq_true rfl)⟩ dL_law_735 (fun H locs hP hD hS => ?_)
  refine lv_aload_n hx hb dL_law_738 rfl (lv_at hl 2 rfl) ?_
  refine lv_aload_n hx hb dL_law_739 rfl (lv_at hl 0 rfl) ?_
  refine lv_iload_n hx hb dL_law_740 rfl (lv_at hl 3 rfl) ?_
  refine lv_iconst (v := 1) hx hb dL_law_741 (by decide) ?_
  refine lv_iadd hx hb dL_law_742 ?_
  refine va_sld hx hb hX hbl hbA hS h1 dL_law_743 ?_
  refine lv_aload_n hx hb dL_law_744 rfl (lv_at hl 0 rfl) ?_
  refine lv_iload_n hx hb dL_law_745 rfl (lv_at hl 3 rfl) ?_
  refine lv_iconst (v := 2) hx hb dL_law_746 (by decide) ?_
  refine lv_iadd hx hb dL_law_747 ?_
  refine va_sld hx hb hX hbl hbA hS h2 dL_law_748 ?_
  refine cVl (wf := (wLaw k dd aa ab ac ah ca ga ta tb tc td nb nv no nd gm P T K X' Y C F zz SO LE RO hi s0 im fr hd' nw hh qs qz it th hm ow lo)) (As := [.int (xs (Int32.toNatClampNeg (x3 + 1))), .int (xs (Int32.toNatClampNeg (x3 + 2)))]) (rest := [.long r]) ⟨hx, hb, hml, hown, htsL⟩ hK hA hP hD hS (mX8_range l D k gm (s := s0) (im := im) (fr := fr) (hd_0 := hd) (nw := nw) (hh := hh) (qs := qs) (qz := qz) (it := it) (th := th) (hm := hm) (ow := ow) (lo := lo) e8) (cwV 2 htsL gL_law_X8_range rfl rfl rfl kX8_range ⟨(Nat.le_of_ble_eq_true rfl), (Nat.le_of_ble_eq_true rfl)⟩) [51, 52, 53, 54, 55, 56, 57, 58, 59, 60] rfl rfl rfl [true, true, true, true, true, true, true, true, true, true, true, true, true, true, true, true, true, true, true, true, true, true, true, true, true, true, true, true, true, true, true, true, true, true, true, true, true, true, true, true, true, true, true, true, true, true, true, true, true, true, true, false, false, false, false, false, false, false, false, false, false] ⟨rfl, rfl, rfl, rfl, rfl, rfl, rfl, rfl, rfl, rfl, rfl, rfl, rfl, rfl, rfl, rfl, rfl, rfl, rfl, rfl, rfl, rfl, rfl, rfl, rfl, rfl, rfl, rfl, rfl, rfl, rfl, rfl, rfl, rfl, rfl, rfl, rfl, rfl, rfl, rfl, rfl, rfl, rfl, rfl, rfl, rfl, rfl, rfl, rfl, rfl, rfl, trivial⟩ 61 rfl (by decide +kernel) rfl 0 rfl rfl rfl hl.1 rfl (Nat.le_of_ble_eq_true rfl) ⟨(Nat.le_of_ble_eq_true rfl), (Nat.le_of_ble_eq_true rfl)⟩ dL_law_749 (fun H locs hP hD hS => ?_)
  refine W.lcmp hx hb dL_law_752 ?_
  refine lv_if_eq (tgt := 1295) hx hb dL_law_753 (by decide) (fun _ => ?_) (fun c1 => absurd ((lg_cmp_eq r r).mpr rfl) c1)
  exact kk P T K X' Y C F zz SO LE RO hi s0 im fr hd' nw hh qs qz it th hm ow lo hI' H locs hP hD hS ls hl
set_option maxRecDepth 100000 in
set_option maxHeartbeats 4000000 in
theorem law_since {p : Program} {l : Launch} {e : Env} {s : State} {m : MethodId} {below : List Frame} {meth : Method} {c : Code} {b L : Nat} {xs : Nat → Int32} (C0 : lw_At p s m meth c b L xs) {D : va_G} {k : Nat → ClassId} (hK : va_K D vwCl (kTy k) s) {dd : Nat → Nat} {aa : Nat → Nat} {ab : Nat → Nat} {ac : Nat → Nat} {ah : Nat → Nat} {ca : Nat → Nat} {ga : Nat → Nat} {ta : Nat → Nat} {tb : Nat → Nat} {tc : Nat → Nat} {td : Nat → Nat} {nb : Nat} {nv : Nat} {no : Nat} {nd : Nat} {gm : Nat → Nat} {P : Nat → Nat → Int32} {T : Nat → Nat → Int32} {K : Nat → Nat → Int32} {X : Nat → Int32} {Y : Nat → Int32} {C : Nat → Int32} {F : Nat → Int64} {zz : Int32} {SO : Nat → Int32} {LE : Nat → Int32} {RO : Nat → Nat → Int64} {hi : Int32} {s0 : Nat → Int32} {im : Nat → Int32} {fr : Nat → Int32} {hd : Nat → Int32} {nw : Nat → Int32} {hh : Nat → Int32} {qs : Nat → Int32} {qz : Nat → Int32} {it : Nat → Int64} {th : Int32} {hm : Int32} {ow : Int32} {lo : Int32} {n : Nat} (hn : n ≤ 600) (hI : LI n P K hi SO LE RO s0 im hm qs qz it) {x3 : Int32} (h1 : vp_in (x3 + 1) L) (h2 : vp_in (x3 + 2) L) (h3 : vp_in (x3 + 3) L) (h4 : vp_in (x3 + 4) L) {H : Heap} {locs : List Loc} (hP : va_P D vwCl (wLaw k dd aa ab ac ah ca ga ta tb tc td nb nv no nd gm P T K X Y C F zz SO LE RO hi s0 im fr hd nw hh qs qz it th hm ow lo) H) (hD : va_D (fun q : Nat => s.heap.size ≤ q) (wLaw k dd aa ab ac ah ca ga ta tb tc td nb nv no nd gm P T K X Y C F zz SO LE RO hi s0 im fr hd nw hh qs qz it th hm ow lo)) (hS : va_S (fun q : Nat => s.heap.size ≤ q) s.heap H locs) {ls : Array Slot} (hl : lv_has ls 4 [(0, .ref b), (1, .ref (dd 0)), (2, .ref (gm 0)), (3, .int x3)]) (kk : LKK p l e s m below meth c b D k dd aa ab ac ah ca ga ta tb tc td nb nv no nd gm n x3) : W p l e room_1 s m #[Value.ref b] below meth c H locs 61 4399 (lw_Z below #[Value.ref b] s) (F0 m 758 ls []) := by
  obtain ⟨hx, hb, hr, hml, hown, hts, hX, hbl, hlocks, hgv⟩ := C0
  have hown : s.vm.findClass RL = some m.cls := hown
  have htsL : ∀ w ∈ wsL_law, w.before #[Value.ref b] s = true := fun w h => hts w (wsL_law_in w h)
  have hA : ∀ q : Nat, s.heap.size ≤ q → (fun q : Nat => s.heap.size ≤ q) q := fun _ h => h
  have hbA : ¬ (fun q : Nat => s.heap.size ≤ q) b := Nat.not_le.mpr hbl
  obtain ⟨r, e7, e8, hI'⟩ := lc_since hn P T K X Y C F zz SO LE RO hi s0 im fr hd nw hh qs qz it th hm ow lo hI (xs (Int32.toNatClampNeg (x3 + 1))) (xs (Int32.toNatClampNeg (x3 + 2)))
  refine lv_aload_n hx hb dL_law_758 rfl (lv_at hl 1 rfl) ?_
  refine lv_aload_n hx hb dL_law_759 rfl (lv_at hl 0 rfl) ?_
  refine lv_iload_n hx hb dL_law_760 rfl (lv_at hl 3 rfl) ?_
  refine lv_iconst (v := 1) hx hb dL_law_761 (by decide) ?_
  refine lv_iadd hx hb dL_law_762 ?_
  refine va_sld hx hb hX hbl hbA hS h1 dL_law_763 ?_
  refine lv_aload_n hx hb dL_law_764 rfl (lv_at hl 0 rfl) ?_
  refine lv_iload_n hx hb dL_law_765 rfl (lv_at hl 3 rfl) ?_
  refine lv_iconst (v := 2) hx hb dL_law_766 (by decide) ?_
  refine lv_iadd hx hb dL_law_767 ?_
  refine va_sld hx hb hX hbl hbA hS h2 dL_law_768 ?_
  refine cVlr (As := [.int (xs (Int32.toNatClampNeg (x3 + 1))), .int (xs (Int32.toNatClampNeg (x3 + 2)))]) (rest := []) ⟨hx, hb, hml, hown, htsL⟩ hK hA hP hD hS (mX7_since l D k dd aa ab ac ah ca ga ta tb tc td nb nv no nd (P := P) (T := T) (K := K) (X := X) (Y := Y) (C := C) (F := F) (z := zz) (SO := SO) (LE := LE) (RO := RO) (hi := hi) e7) (cwV 2 htsL gL_law_X7_since rfl rfl rfl kX7_since ⟨(Nat.le_of_ble_eq_true rfl), (Nat.le_of_ble_eq_true rfl)⟩) [0, 1, 2, 3, 4, 5, 6, 7, 8, 9, 10, 11, 12, 13, 14, 15, 16, 17, 18, 19, 20, 21, 22, 23, 24, 25, 26, 27, 28, 29, 30, 31, 32, 33, 34, 35, 36, 37, 38, 39, 40, 41, 42, 43, 44, 45, 46, 47, 48, 49, 50] rfl rfl 0 rfl rfl rfl hl.1 rfl (Nat.le_of_ble_eq_true rfl) ⟨(Nat.le_of_ble_eq_true rfl), (Nat.le_of_ble_eq_true rfl)⟩ dL_law_769 (fun H locs hP hD hS => ?_)
  refine lv_aload_n hx hb dL_law_772 rfl (lv_at hl 2 rfl) ?_
  refine lv_aload_n hx hb dL_law_773 rfl (lv_at hl 0 rfl) ?_
  refine lv_iload_n hx hb dL_law_774 rfl (lv_at hl 3 rfl) ?_
  refine lv_iconst (v := 1) hx hb dL_law_775 (by decide) ?_
  refine lv_iadd hx hb dL_law_776 ?_
  refine va_sld hx hb hX hbl hbA hS h1 dL_law_777 ?_
  refine lv_aload_n hx hb dL_law_778 rfl (lv_at hl 0 rfl) ?_
  refine lv_iload_n hx hb dL_law_779 rfl (lv_at hl 3 rfl) ?_
  refine lv_iconst (v := 2) hx hb dL_law_780 (by decide) ?_
  refine lv_iadd hx hb dL_law_781 ?_
  refine va_sld hx hb hX hbl hbA hS h2 dL_law_782 ?_
  refine cVlr (As := [.int (xs (Int32.toNatClampNeg (x3 + 1))), .int (xs (Int32.toNatClampNeg (x3 + 2)))]) (rest := [.long r]) ⟨hx, hb, hml, hown, htsL⟩ hK hA hP hD hS (mX8_since l D k gm (s := s0) (im := im) (fr := fr) (hd := hd) (nw := nw) (hh := hh) (qs := qs) (qz := qz) (it := it) (th := th) (hm := hm) (ow := ow) (lo := lo) e8) (cwV 2 htsL gL_law_X8_since rfl rfl rfl kX8_since ⟨(Nat.le_of_ble_eq_true rfl), (Nat.le_of_ble_eq_true rfl)⟩) [51, 52, 53, 54, 55, 56, 57, 58, 59, 60] rfl rfl 0 rfl rfl rfl hl.1 rfl (Nat.le_of_ble_eq_true rfl) ⟨(Nat.le_of_ble_eq_true rfl), (Nat.le_of_ble_eq_true rfl)⟩ dL_law_783 (fun H locs hP hD hS => ?_)
  refine W.lcmp hx hb dL_law_786 ?_
  refine lv_if_eq (tgt := 1295) hx hb dL_law_787 (by decide) (fun _ => ?_) (fun c1 => absurd ((lg_cmp_eq r r).mpr rfl) c1)
  exact kk P T K X Y C F zz SO LE RO hi s0 im fr hd nw hh qs qz it th hm ow lo hI' H locs hP hD hS ls hl
set_option maxRecDepth 100000 in
set_option maxHeartbeats 4000000 in
theorem law_common {p : Program} {l : Launch} {e : Env} {s : State} {m : MethodId} {below : List Frame} {meth : Method} {c : Code} {b L : Nat} {xs : Nat → Int32} (C0 : lw_At p s m meth c b L xs) {D : va_G} {k : Nat → ClassId} (hK : va_K D vwCl (kTy k) s) {dd : Nat → Nat} {aa : Nat → Nat} {ab : Nat → Nat} {ac : Nat → Nat} {ah : Nat → Nat} {ca : Nat → Nat} {ga : Nat → Nat} {ta : Nat → Nat} {tb : Nat → Nat} {tc : Nat → Nat} {td : Nat → Nat} {nb : Nat} {nv : Nat} {no : Nat} {nd : Nat} {gm : Nat → Nat} {P : Nat → Nat → Int32} {T : Nat → Nat → Int32} {K : Nat → Nat → Int32} {X : Nat → Int32} {Y : Nat → Int32} {C : Nat → Int32} {F : Nat → Int64} {zz : Int32} {SO : Nat → Int32} {LE : Nat → Int32} {RO : Nat → Nat → Int64} {hi : Int32} {s0 : Nat → Int32} {im : Nat → Int32} {fr : Nat → Int32} {hd : Nat → Int32} {nw : Nat → Int32} {hh : Nat → Int32} {qs : Nat → Int32} {qz : Nat → Int32} {it : Nat → Int64} {th : Int32} {hm : Int32} {ow : Int32} {lo : Int32} {n : Nat} (hn : n ≤ 600) (hI : LI n P K hi SO LE RO s0 im hm qs qz it) {x3 : Int32} (h1 : vp_in (x3 + 1) L) (h2 : vp_in (x3 + 2) L) (h3 : vp_in (x3 + 3) L) (h4 : vp_in (x3 + 4) L) {H : Heap} {locs : List Loc} (hP : va_P D vwCl (wLaw k dd aa ab ac ah ca ga ta tb tc td nb nv no nd gm P T K X Y C F zz SO LE RO hi s0 im fr hd nw hh qs qz it th hm ow lo) H) (hD : va_D (fun q : Nat => s.heap.size ≤ q) (wLaw k dd aa ab ac ah ca ga ta tb tc td nb nv no nd gm P T K X Y C F zz SO LE RO hi s0 im fr hd nw hh qs qz it th hm ow lo)) (hS : va_S (fun q : Nat => s.heap.size ≤ q) s.heap H locs) {ls : Array Slot} (hl : lv_has ls 4 [(0, .ref b), (1, .ref (dd 0)), (2, .ref (gm 0)), (3, .int x3)]) (kk : LKK p l e s m below meth c b D k dd aa ab ac ah ca ga ta tb tc td nb nv no nd gm n x3) : W p l e room_1 s m #[Value.ref b] below meth c H locs 61 4399 (lw_Z below #[Value.ref b] s) (F0 m 792 ls []) := by
  obtain ⟨hx, hb, hr, hml, hown, hts, hX, hbl, hlocks, hgv⟩ := C0
  have hown : s.vm.findClass RL = some m.cls := hown
  have htsL : ∀ w ∈ wsL_law, w.before #[Value.ref b] s = true := fun w h => hts w (wsL_law_in w h)
  have hA : ∀ q : Nat, s.heap.size ≤ q → (fun q : Nat => s.heap.size ≤ q) q := fun _ h => h
  have hbA : ¬ (fun q : Nat => s.heap.size ≤ q) b := Nat.not_le.mpr hbl
  obtain ⟨r, e7, e8, hI'⟩ := lc_common hn P T K X Y C F zz SO LE RO hi s0 im fr hd nw hh qs qz it th hm ow lo hI (xs (Int32.toNatClampNeg (x3 + 1))) (xs (Int32.toNatClampNeg (x3 + 2)))
  refine lv_aload_n hx hb dL_law_792 rfl (lv_at hl 1 rfl) ?_
  refine lv_aload_n hx hb dL_law_793 rfl (lv_at hl 0 rfl) ?_
  refine lv_iload_n hx hb dL_law_794 rfl (lv_at hl 3 rfl) ?_
  refine lv_iconst (v := 1) hx hb dL_law_795 (by decide) ?_
  refine lv_iadd hx hb dL_law_796 ?_
  refine va_sld hx hb hX hbl hbA hS h1 dL_law_797 ?_
  refine lv_aload_n hx hb dL_law_798 rfl (lv_at hl 0 rfl) ?_
  refine lv_iload_n hx hb dL_law_799 rfl (lv_at hl 3 rfl) ?_
  refine lv_iconst (v := 2) hx hb dL_law_800 (by decide) ?_
  refine lv_iadd hx hb dL_law_801 ?_
  refine va_sld hx hb hX hbl hbA hS h2 dL_law_802 ?_
  refine cVlr (As := [.int (xs (Int32.toNatClampNeg (x3 + 1))), .int (xs (Int32.toNatClampNeg (x3 + 2)))]) (rest := []) ⟨hx, hb, hml, hown, htsL⟩ hK hA hP hD hS (mX7_common l D k dd aa ab ac ah ca ga ta tb tc td nb nv no nd (P := P) (T := T) (K := K) (X := X) (Y := Y) (C := C) (F := F) (z := zz) (SO := SO) (LE := LE) (RO := RO) (hi := hi) e7) (cwV 2 htsL gL_law_X7_common rfl rfl rfl kX7_common ⟨(Nat.le_of_ble_eq_true rfl), (Nat.le_of_ble_eq_true rfl)⟩) [0, 1, 2, 3, 4, 5, 6, 7, 8, 9, 10, 11, 12, 13, 14, 15, 16, 17, 18, 19, 20, 21, 22, 23, 24, 25, 26, 27, 28, 29, 30, 31, 32, 33, 34, 35, 36, 37, 38, 39, 40, 41, 42, 43, 44, 45, 46, 47, 48, 49, 50] rfl rfl 0 rfl rfl rfl hl.1 rfl (Nat.le_of_ble_eq_true rfl) ⟨(Nat.le_of_ble_eq_true rfl), (Nat.le_of_ble_eq_true rfl)⟩ dL_law_803 (fun H locs hP hD hS => ?_)
  refine lv_aload_n hx hb dL_law_806 rfl (lv_at hl 2 rfl) ?_
  refine lv_aload_n hx hb dL_law_807 rfl (lv_at hl 0 rfl) ?_
  refine lv_iload_n hx hb dL_law_808 rfl (lv_at hl 3 rfl) ?_
  refine lv_iconst (v := 1) hx hb dL_law_809 (by decide) ?_
  refine lv_iadd hx hb dL_law_810 ?_
  refine va_sld hx hb hX hbl hbA hS h1 dL_law_811 ?_
  refine lv_aload_n hx hb dL_law_812 rfl (lv_at hl 0 rfl) ?_
  refine lv_iload_n hx hb dL_law_813 rfl (lv_at hl 3 rfl) ?_
  refine lv_iconst (v := 2) hx hb dL_law_814 (by decide) ?_
  refine lv_iadd hx hb dL_law_815 ?_
  refine va_sld hx hb hX hbl hbA hS h2 dL_law_816 ?_
  refine cVlr (As := [.int (xs (Int32.toNatClampNeg (x3 + 1))), .int (xs (Int32.toNatClampNeg (x3 + 2)))]) (rest := [.long r]) ⟨hx, hb, hml, hown, htsL⟩ hK hA hP hD hS (mX8_common l D k gm (s := s0) (im := im) (fr := fr) (hd := hd) (nw := nw) (hh := hh) (qs := qs) (qz := qz) (it := it) (th := th) (hm := hm) (ow := ow) (lo := lo) e8) (cwV 2 htsL gL_law_X8_common rfl rfl rfl kX8_common ⟨(Nat.le_of_ble_eq_true rfl), (Nat.le_of_ble_eq_true rfl)⟩) [51, 52, 53, 54, 55, 56, 57, 58, 59, 60] rfl rfl 0 rfl rfl rfl hl.1 rfl (Nat.le_of_ble_eq_true rfl) ⟨(Nat.le_of_ble_eq_true rfl), (Nat.le_of_ble_eq_true rfl)⟩ dL_law_817 (fun H locs hP hD hS => ?_)
  refine W.lcmp hx hb dL_law_820 ?_
  refine lv_if_eq (tgt := 1295) hx hb dL_law_821 (by decide) (fun _ => ?_) (fun c1 => absurd ((lg_cmp_eq r r).mpr rfl) c1)
  exact kk P T K X Y C F zz SO LE RO hi s0 im fr hd nw hh qs qz it th hm ow lo hI' H locs hP hD hS ls hl
set_option maxRecDepth 100000 in
set_option maxHeartbeats 4000000 in
theorem law_most {p : Program} {l : Launch} {e : Env} {s : State} {m : MethodId} {below : List Frame} {meth : Method} {c : Code} {b L : Nat} {xs : Nat → Int32} (C0 : lw_At p s m meth c b L xs) {D : va_G} {k : Nat → ClassId} (hK : va_K D vwCl (kTy k) s) {dd : Nat → Nat} {aa : Nat → Nat} {ab : Nat → Nat} {ac : Nat → Nat} {ah : Nat → Nat} {ca : Nat → Nat} {ga : Nat → Nat} {ta : Nat → Nat} {tb : Nat → Nat} {tc : Nat → Nat} {td : Nat → Nat} {nb : Nat} {nv : Nat} {no : Nat} {nd : Nat} {gm : Nat → Nat} {P : Nat → Nat → Int32} {T : Nat → Nat → Int32} {K : Nat → Nat → Int32} {X : Nat → Int32} {Y : Nat → Int32} {C : Nat → Int32} {F : Nat → Int64} {zz : Int32} {SO : Nat → Int32} {LE : Nat → Int32} {RO : Nat → Nat → Int64} {hi : Int32} {s0 : Nat → Int32} {im : Nat → Int32} {fr : Nat → Int32} {hd : Nat → Int32} {nw : Nat → Int32} {hh : Nat → Int32} {qs : Nat → Int32} {qz : Nat → Int32} {it : Nat → Int64} {th : Int32} {hm : Int32} {ow : Int32} {lo : Int32} {n : Nat} (hn : n ≤ 600) (hI : LI n P K hi SO LE RO s0 im hm qs qz it) {x3 : Int32} (h1 : vp_in (x3 + 1) L) (h2 : vp_in (x3 + 2) L) (h3 : vp_in (x3 + 3) L) (h4 : vp_in (x3 + 4) L) {H : Heap} {locs : List Loc} (hP : va_P D vwCl (wLaw k dd aa ab ac ah ca ga ta tb tc td nb nv no nd gm P T K X Y C F zz SO LE RO hi s0 im fr hd nw hh qs qz it th hm ow lo) H) (hD : va_D (fun q : Nat => s.heap.size ≤ q) (wLaw k dd aa ab ac ah ca ga ta tb tc td nb nv no nd gm P T K X Y C F zz SO LE RO hi s0 im fr hd nw hh qs qz it th hm ow lo)) (hS : va_S (fun q : Nat => s.heap.size ≤ q) s.heap H locs) {ls : Array Slot} (hl : lv_has ls 4 [(0, .ref b), (1, .ref (dd 0)), (2, .ref (gm 0)), (3, .int x3)]) (kk : LKK p l e s m below meth c b D k dd aa ab ac ah ca ga ta tb tc td nb nv no nd gm n x3) : W p l e room_1 s m #[Value.ref b] below meth c H locs 61 4399 (lw_Z below #[Value.ref b] s) (F0 m 826 ls []) := by
  obtain ⟨hx, hb, hr, hml, hown, hts, hX, hbl, hlocks, hgv⟩ := C0
  have hown : s.vm.findClass RL = some m.cls := hown
  have htsL : ∀ w ∈ wsL_law, w.before #[Value.ref b] s = true := fun w h => hts w (wsL_law_in w h)
  have hA : ∀ q : Nat, s.heap.size ≤ q → (fun q : Nat => s.heap.size ≤ q) q := fun _ h => h
  have hbA : ¬ (fun q : Nat => s.heap.size ≤ q) b := Nat.not_le.mpr hbl
  obtain ⟨r, Y', C', F', hd', nw', hh', ow', e7, e8, hI'⟩ := lc_most hn P T K X Y C F zz SO LE RO hi s0 im fr hd nw hh qs qz it th hm ow lo hI (xs (Int32.toNatClampNeg (x3 + 1))) (xs (Int32.toNatClampNeg (x3 + 2)))
  refine lv_aload_n hx hb dL_law_826 rfl (lv_at hl 1 rfl) ?_
  refine lv_aload_n hx hb dL_law_827 rfl (lv_at hl 0 rfl) ?_
  refine lv_iload_n hx hb dL_law_828 rfl (lv_at hl 3 rfl) ?_
  refine lv_iconst (v := 1) hx hb dL_law_829 (by decide) ?_
  refine lv_iadd hx hb dL_law_830 ?_
  refine va_sld hx hb hX hbl hbA hS h1 dL_law_831 ?_
  refine lv_aload_n hx hb dL_law_832 rfl (lv_at hl 0 rfl) ?_
  refine lv_iload_n hx hb dL_law_833 rfl (lv_at hl 3 rfl) ?_
  refine lv_iconst (v := 2) hx hb dL_law_834 (by decide) ?_
  refine lv_iadd hx hb dL_law_835 ?_
  refine va_sld hx hb hX hbl hbA hS h2 dL_law_836 ?_
  refine cVl (wf := (wLaw k dd aa ab ac ah ca ga ta tb tc td nb nv no nd gm P T K X Y' C' F' zz SO LE RO hi s0 im fr hd nw hh qs qz it th hm ow lo)) (As := [.int (xs (Int32.toNatClampNeg (x3 + 1))), .int (xs (Int32.toNatClampNeg (x3 + 2)))]) (rest := []) ⟨hx, hb, hml, hown, htsL⟩ hK hA hP hD hS (mX7_most l D k dd aa ab ac ah ca ga ta tb tc td nb nv no nd (P := P) (T := T) (K := K) (X := X) (Y_0 := Y) (C_0 := C) (F_0 := F) (z := zz) (SO := SO) (LE := LE) (RO := RO) (hi := hi) e7) (cwV 2 htsL gL_law_X7_most rfl rfl rfl kX7_most ⟨(Nat.le_of_ble_eq_true rfl), (Nat.le_of_ble_eq_true rfl)⟩) [0, 1, 2, 3, 4, 5, 6, 7, 8, 9, 10, 11, 12, 13, 14, 15, 16, 17, 18, 19, 20, 21, 22, 23, 24, 25, 26, 27, 28, 29, 30, 31, 32, 33, 34, 35, 36, 37, 38, 39, 40, 41, 42, 43, 44, 45, 46, 47, 48, 49, 50] rfl rfl rfl [false, false, false, false, false, false, false, false, false, false, false, false, false, false, false, false, false, false, false, false, false, false, false, false, false, false, false, false, false, false, false, false, false, false, false, false, false, false, false, false, false, false, false, false, false, false, false, false, false, false, false, true, true, true, true, true, true, true, true, true, true] ⟨rfl, rfl, rfl, rfl, rfl, rfl, rfl, rfl, rfl, rfl, trivial⟩ 61 rfl (by decide +kernel) rfl 0 rfl rfl rfl hl.1 rfl (Nat.le_of_ble_eq_true rfl) ⟨(Nat.le_of_ble_eq_true rfl), (Nat.le_of_ble_eq_true rfl)⟩ dL_law_837 (fun H locs hP hD hS => ?_)
  refine lv_aload_n hx hb dL_law_840 rfl (lv_at hl 2 rfl) ?_
  refine lv_aload_n hx hb dL_law_841 rfl (lv_at hl 0 rfl) ?_
  refine lv_iload_n hx hb dL_law_842 rfl (lv_at hl 3 rfl) ?_
  refine lv_iconst (v := 1) hx hb dL_law_843 (by decide) ?_
  refine lv_iadd hx hb dL_law_844 ?_
  refine va_sld hx hb hX hbl hbA hS h1 dL_law_845 ?_
  refine lv_aload_n hx hb dL_law_846 rfl (lv_at hl 0 rfl) ?_
  refine lv_iload_n hx hb dL_law_847 rfl (lv_at hl 3 rfl) ?_
  refine lv_iconst (v := 2) hx hb dL_law_848 (by decide) ?_
  refine lv_iadd hx hb dL_law_849 ?_
  refine va_sld hx hb hX hbl hbA hS h2 dL_law_850 ?_
  refine cVl (wf := (wLaw k dd aa ab ac ah ca ga ta tb tc td nb nv no nd gm P T K X Y' C' F' zz SO LE RO hi s0 im fr hd' nw' hh' qs qz it th hm ow' lo)) (As := [.int (xs (Int32.toNatClampNeg (x3 + 1))), .int (xs (Int32.toNatClampNeg (x3 + 2)))]) (rest := [.long r]) ⟨hx, hb, hml, hown, htsL⟩ hK hA hP hD hS (mX8_most l D k gm (s := s0) (im := im) (fr := fr) (hd_0 := hd) (nw_0 := nw) (hh_0 := hh) (qs := qs) (qz := qz) (it := it) (th := th) (hm := hm) (ow_0 := ow) (lo := lo) e8) (cwV 2 htsL gL_law_X8_most rfl rfl rfl kX8_most ⟨(Nat.le_of_ble_eq_true rfl), (Nat.le_of_ble_eq_true rfl)⟩) [51, 52, 53, 54, 55, 56, 57, 58, 59, 60] rfl rfl rfl [true, true, true, true, true, true, true, true, true, true, true, true, true, true, true, true, true, true, true, true, true, true, true, true, true, true, true, true, true, true, true, true, true, true, true, true, true, true, true, true, true, true, true, true, true, true, true, true, true, true, true, false, false, false, false, false, false, false, false, false, false] ⟨rfl, rfl, rfl, rfl, rfl, rfl, rfl, rfl, rfl, rfl, rfl, rfl, rfl, rfl, rfl, rfl, rfl, rfl, rfl, rfl, rfl, rfl, rfl, rfl, rfl, rfl, rfl, rfl, rfl, rfl, rfl, rfl, rfl, rfl, rfl, rfl, rfl, rfl, rfl, rfl, rfl, rfl, rfl, rfl, rfl, rfl, rfl, rfl, rfl, rfl, rfl, trivial⟩ 61 rfl (by decide +kernel) rfl 0 rfl rfl rfl hl.1 rfl (Nat.le_of_ble_eq_true rfl) ⟨(Nat.le_of_ble_eq_true rfl), (Nat.le_of_ble_eq_true rfl)⟩ dL_law_851 (fun H locs hP hD hS => ?_)
  refine W.lcmp hx hb dL_law_854 ?_
  refine lv_if_eq (tgt := 1295) hx hb dL_law_855 (by decide) (fun _ => ?_) (fun c1 => absurd ((lg_cmp_eq r r).mpr rfl) c1)
  exact kk P T K X Y' C' F' zz SO LE RO hi s0 im fr hd' nw' hh' qs qz it th hm ow' lo hI' H locs hP hD hS ls hl
set_option maxRecDepth 100000 in
set_option maxHeartbeats 4000000 in
theorem law_fewest {p : Program} {l : Launch} {e : Env} {s : State} {m : MethodId} {below : List Frame} {meth : Method} {c : Code} {b L : Nat} {xs : Nat → Int32} (C0 : lw_At p s m meth c b L xs) {D : va_G} {k : Nat → ClassId} (hK : va_K D vwCl (kTy k) s) {dd : Nat → Nat} {aa : Nat → Nat} {ab : Nat → Nat} {ac : Nat → Nat} {ah : Nat → Nat} {ca : Nat → Nat} {ga : Nat → Nat} {ta : Nat → Nat} {tb : Nat → Nat} {tc : Nat → Nat} {td : Nat → Nat} {nb : Nat} {nv : Nat} {no : Nat} {nd : Nat} {gm : Nat → Nat} {P : Nat → Nat → Int32} {T : Nat → Nat → Int32} {K : Nat → Nat → Int32} {X : Nat → Int32} {Y : Nat → Int32} {C : Nat → Int32} {F : Nat → Int64} {zz : Int32} {SO : Nat → Int32} {LE : Nat → Int32} {RO : Nat → Nat → Int64} {hi : Int32} {s0 : Nat → Int32} {im : Nat → Int32} {fr : Nat → Int32} {hd : Nat → Int32} {nw : Nat → Int32} {hh : Nat → Int32} {qs : Nat → Int32} {qz : Nat → Int32} {it : Nat → Int64} {th : Int32} {hm : Int32} {ow : Int32} {lo : Int32} {n : Nat} (hn : n ≤ 600) (hI : LI n P K hi SO LE RO s0 im hm qs qz it) {x3 : Int32} (h1 : vp_in (x3 + 1) L) (h2 : vp_in (x3 + 2) L) (h3 : vp_in (x3 + 3) L) (h4 : vp_in (x3 + 4) L) {H : Heap} {locs : List Loc} (hP : va_P D vwCl (wLaw k dd aa ab ac ah ca ga ta tb tc td nb nv no nd gm P T K X Y C F zz SO LE RO hi s0 im fr hd nw hh qs qz it th hm ow lo) H) (hD : va_D (fun q : Nat => s.heap.size ≤ q) (wLaw k dd aa ab ac ah ca ga ta tb tc td nb nv no nd gm P T K X Y C F zz SO LE RO hi s0 im fr hd nw hh qs qz it th hm ow lo)) (hS : va_S (fun q : Nat => s.heap.size ≤ q) s.heap H locs) {ls : Array Slot} (hl : lv_has ls 4 [(0, .ref b), (1, .ref (dd 0)), (2, .ref (gm 0)), (3, .int x3)]) (kk : LKK p l e s m below meth c b D k dd aa ab ac ah ca ga ta tb tc td nb nv no nd gm n x3) : W p l e room_1 s m #[Value.ref b] below meth c H locs 61 4399 (lw_Z below #[Value.ref b] s) (F0 m 860 ls []) := by
  obtain ⟨hx, hb, hr, hml, hown, hts, hX, hbl, hlocks, hgv⟩ := C0
  have hown : s.vm.findClass RL = some m.cls := hown
  have htsL : ∀ w ∈ wsL_law, w.before #[Value.ref b] s = true := fun w h => hts w (wsL_law_in w h)
  have hA : ∀ q : Nat, s.heap.size ≤ q → (fun q : Nat => s.heap.size ≤ q) q := fun _ h => h
  have hbA : ¬ (fun q : Nat => s.heap.size ≤ q) b := Nat.not_le.mpr hbl
  obtain ⟨r, Y', C', F', hd', nw', hh', ow', e7, e8, hI'⟩ := lc_fewest hn P T K X Y C F zz SO LE RO hi s0 im fr hd nw hh qs qz it th hm ow lo hI (xs (Int32.toNatClampNeg (x3 + 1))) (((Int32.toInt64 (xs (Int32.toNatClampNeg (x3 + 2)))) <<< (Int32.toInt64 32 &&& 63)) ||| ((Int32.toInt64 (xs (Int32.toNatClampNeg (x3 + 3)))) &&& 4294967295))
  refine lv_aload_n hx hb dL_law_860 rfl (lv_at hl 1 rfl) ?_
  refine lv_aload_n hx hb dL_law_861 rfl (lv_at hl 0 rfl) ?_
  refine lv_iload_n hx hb dL_law_862 rfl (lv_at hl 3 rfl) ?_
  refine lv_iconst (v := 1) hx hb dL_law_863 (by decide) ?_
  refine lv_iadd hx hb dL_law_864 ?_
  refine va_sld hx hb hX hbl hbA hS h1 dL_law_865 ?_
  refine lv_aload_n hx hb dL_law_866 rfl (lv_at hl 0 rfl) ?_
  refine lv_iload_n hx hb dL_law_867 rfl (lv_at hl 3 rfl) ?_
  refine lv_iconst (v := 2) hx hb dL_law_868 (by decide) ?_
  refine lv_iadd hx hb dL_law_869 ?_
  refine va_sld hx hb hX hbl hbA hS h2 dL_law_870 ?_
  refine lv_i2l (v := (Int32.toInt64 (xs (Int32.toNatClampNeg (x3 + 2))))) hx hb dL_law_871 rfl ?_
  refine lv_bipush (v := 32) hx hb dL_law_872 (by decide) ?_
  refine lv_lshl (v := ((Int32.toInt64 (xs (Int32.toNatClampNeg (x3 + 2)))) <<< (Int32.toInt64 32 &&& 63))) hx hb dL_law_874 rfl ?_
  refine lv_aload_n hx hb dL_law_875 rfl (lv_at hl 0 rfl) ?_
  refine lv_iload_n hx hb dL_law_876 rfl (lv_at hl 3 rfl) ?_
  refine lv_iconst (v := 3) hx hb dL_law_877 (by decide) ?_
  refine lv_iadd hx hb dL_law_878 ?_
  refine va_sld hx hb hX hbl hbA hS h3 dL_law_879 ?_
  refine lv_i2l (v := (Int32.toInt64 (xs (Int32.toNatClampNeg (x3 + 3))))) hx hb dL_law_880 rfl ?_
  refine lv_ldc2 hx hb hown (htsL (.constantLong RL 111 (4294967295)) (List.mem_of_getElem? (i := 6) rfl)) dL_law_881 ?_
  refine lv_land hx hb dL_law_884 ?_
  refine lv_lor hx hb dL_law_885 ?_
  refine cVi (wf := (wLaw k dd aa ab ac ah ca ga ta tb tc td nb nv no nd gm P T K X Y' C' F' zz SO LE RO hi s0 im fr hd nw hh qs qz it th hm ow lo)) (As := [.int (xs (Int32.toNatClampNeg (x3 + 1))), .long (((Int32.toInt64 (xs (Int32.toNatClampNeg (x3 + 2)))) <<< (Int32.toInt64 32 &&& 63)) ||| ((Int32.toInt64 (xs (Int32.toNatClampNeg (x3 + 3)))) &&& 4294967295))]) (rest := []) ⟨hx, hb, hml, hown, htsL⟩ hK hA hP hD hS (mX7_fewest l D k dd aa ab ac ah ca ga ta tb tc td nb nv no nd (P := P) (T := T) (K := K) (X := X) (Y_0 := Y) (C_0 := C) (F_0 := F) (z := zz) (SO := SO) (LE := LE) (RO := RO) (hi := hi) e7) (cwV 2 htsL gL_law_X7_fewest rfl rfl rfl kX7_fewest ⟨(Nat.le_of_ble_eq_true rfl), (Nat.le_of_ble_eq_true rfl)⟩) [0, 1, 2, 3, 4, 5, 6, 7, 8, 9, 10, 11, 12, 13, 14, 15, 16, 17, 18, 19, 20, 21, 22, 23, 24, 25, 26, 27, 28, 29, 30, 31, 32, 33, 34, 35, 36, 37, 38, 39, 40, 41, 42, 43, 44, 45, 46, 47, 48, 49, 50] rfl rfl rfl [false, false, false, false, false, false, false, false, false, false, false, false, false, false, false, false, false, false, false, false, false, false, false, false, false, false, false, false, false, false, false, false, false, false, false, false, false, false, false, false, false, false, false, false, false, false, false, false, false, false, false, true, true, true, true, true, true, true, true, true, true] ⟨rfl, rfl, rfl, rfl, rfl, rfl, rfl, rfl, rfl, rfl, trivial⟩ 61 rfl (by decide +kernel) rfl 0 rfl rfl rfl hl.1 rfl (Nat.le_of_ble_eq_true rfl) ⟨(Nat.le_of_ble_eq_true rfl), (Nat.le_of_ble_eq_true rfl)⟩ dL_law_886 (fun H locs hP hD hS => ?_)
  refine lv_aload_n hx hb dL_law_889 rfl (lv_at hl 2 rfl) ?_
  refine lv_aload_n hx hb dL_law_890 rfl (lv_at hl 0 rfl) ?_
  refine lv_iload_n hx hb dL_law_891 rfl (lv_at hl 3 rfl) ?_
  refine lv_iconst (v := 1) hx hb dL_law_892 (by decide) ?_
  refine lv_iadd hx hb dL_law_893 ?_
  refine va_sld hx hb hX hbl hbA hS h1 dL_law_894 ?_
  refine lv_aload_n hx hb dL_law_895 rfl (lv_at hl 0 rfl) ?_
  refine lv_iload_n hx hb dL_law_896 rfl (lv_at hl 3 rfl) ?_
  refine lv_iconst (v := 2) hx hb dL_law_897 (by decide) ?_
  refine lv_iadd hx hb dL_law_898 ?_
  refine va_sld hx hb hX hbl hbA hS h2 dL_law_899 ?_
  refine lv_i2l (v := (Int32.toInt64 (xs (Int32.toNatClampNeg (x3 + 2))))) hx hb dL_law_900 rfl ?_
  refine lv_bipush (v := 32) hx hb dL_law_901 (by decide) ?_
  refine lv_lshl (v := ((Int32.toInt64 (xs (Int32.toNatClampNeg (x3 + 2)))) <<< (Int32.toInt64 32 &&& 63))) hx hb dL_law_903 rfl ?_
  refine lv_aload_n hx hb dL_law_904 rfl (lv_at hl 0 rfl) ?_
  refine lv_iload_n hx hb dL_law_905 rfl (lv_at hl 3 rfl) ?_
  refine lv_iconst (v := 3) hx hb dL_law_906 (by decide) ?_
  refine lv_iadd hx hb dL_law_907 ?_
  refine va_sld hx hb hX hbl hbA hS h3 dL_law_908 ?_
  refine lv_i2l (v := (Int32.toInt64 (xs (Int32.toNatClampNeg (x3 + 3))))) hx hb dL_law_909 rfl ?_
  refine lv_ldc2 hx hb hown (htsL (.constantLong RL 111 (4294967295)) (List.mem_of_getElem? (i := 6) rfl)) dL_law_910 ?_
  refine lv_land hx hb dL_law_913 ?_
  refine lv_lor hx hb dL_law_914 ?_
  refine cVi (wf := (wLaw k dd aa ab ac ah ca ga ta tb tc td nb nv no nd gm P T K X Y' C' F' zz SO LE RO hi s0 im fr hd' nw' hh' qs qz it th hm ow' lo)) (As := [.int (xs (Int32.toNatClampNeg (x3 + 1))), .long (((Int32.toInt64 (xs (Int32.toNatClampNeg (x3 + 2)))) <<< (Int32.toInt64 32 &&& 63)) ||| ((Int32.toInt64 (xs (Int32.toNatClampNeg (x3 + 3)))) &&& 4294967295))]) (rest := [.int r]) ⟨hx, hb, hml, hown, htsL⟩ hK hA hP hD hS (mX8_fewest l D k gm (s := s0) (im := im) (fr := fr) (hd_0 := hd) (nw_0 := nw) (hh_0 := hh) (qs := qs) (qz := qz) (it := it) (th := th) (hm := hm) (ow_0 := ow) (lo := lo) e8) (cwV 2 htsL gL_law_X8_fewest rfl rfl rfl kX8_fewest ⟨(Nat.le_of_ble_eq_true rfl), (Nat.le_of_ble_eq_true rfl)⟩) [51, 52, 53, 54, 55, 56, 57, 58, 59, 60] rfl rfl rfl [true, true, true, true, true, true, true, true, true, true, true, true, true, true, true, true, true, true, true, true, true, true, true, true, true, true, true, true, true, true, true, true, true, true, true, true, true, true, true, true, true, true, true, true, true, true, true, true, true, true, true, false, false, false, false, false, false, false, false, false, false] ⟨rfl, rfl, rfl, rfl, rfl, rfl, rfl, rfl, rfl, rfl, rfl, rfl, rfl, rfl, rfl, rfl, rfl, rfl, rfl, rfl, rfl, rfl, rfl, rfl, rfl, rfl, rfl, rfl, rfl, rfl, rfl, rfl, rfl, rfl, rfl, rfl, rfl, rfl, rfl, rfl, rfl, rfl, rfl, rfl, rfl, rfl, rfl, rfl, rfl, rfl, rfl, trivial⟩ 61 rfl (by decide +kernel) rfl 0 rfl rfl rfl hl.1 rfl (Nat.le_of_ble_eq_true rfl) ⟨(Nat.le_of_ble_eq_true rfl), (Nat.le_of_ble_eq_true rfl)⟩ dL_law_915 (fun H locs hP hD hS => ?_)
  refine lv_icmp_eq (tgt := 1295) hx hb dL_law_918 (by decide) (fun _ => ?_) (fun c1 => absurd rfl c1)
  exact kk P T K X Y' C' F' zz SO LE RO hi s0 im fr hd' nw' hh' qs qz it th hm ow' lo hI' H locs hP hD hS ls hl
