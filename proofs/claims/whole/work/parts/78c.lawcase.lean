set_option maxRecDepth 100000 in
set_option maxHeartbeats 4000000 in
theorem law_slot {p : Program} {l : Launch} {e : Env} {s : State} {m : MethodId} {below : List Frame} {meth : Method} {c : Code} {b L : Nat} {xs : Nat → Int32} (C0 : lw_At p s m meth c b L xs) {D : va_G} {k : Nat → ClassId} (hK : va_K D vwCl (kTy k) s) {dd : Nat → Nat} {aa : Nat → Nat} {ab : Nat → Nat} {ac : Nat → Nat} {ah : Nat → Nat} {ca : Nat → Nat} {ga : Nat → Nat} {ta : Nat → Nat} {tb : Nat → Nat} {tc : Nat → Nat} {td : Nat → Nat} {nb : Nat} {nv : Nat} {no : Nat} {nd : Nat} {gm : Nat → Nat} {P : Nat → Nat → Int32} {T : Nat → Nat → Int32} {K : Nat → Nat → Int32} {X : Nat → Int32} {Y : Nat → Int32} {C : Nat → Int32} {F : Nat → Int64} {zz : Int32} {SO : Nat → Int32} {LE : Nat → Int32} {RO : Nat → Nat → Int64} {hi : Int32} {s0 : Nat → Int32} {im : Nat → Int32} {fr : Nat → Int32} {hd : Nat → Int32} {nw : Nat → Int32} {hh : Nat → Int32} {qs : Nat → Int32} {qz : Nat → Int32} {it : Nat → Int64} {th : Int32} {hm : Int32} {ow : Int32} {lo : Int32} {n : Nat} (hn : n ≤ 600) (hI : LI n P K hi SO LE RO s0 im hm qs qz it) {x3 : Int32} (h1 : vp_in (x3 + 1) L) (h2 : vp_in (x3 + 2) L) (h3 : vp_in (x3 + 3) L) (h4 : vp_in (x3 + 4) L) {H : Heap} {locs : List Loc} (hP : va_P D vwCl (wLaw k dd aa ab ac ah ca ga ta tb tc td nb nv no nd gm P T K X Y C F zz SO LE RO hi s0 im fr hd nw hh qs qz it th hm ow lo) H) (hD : va_D (fun q : Nat => s.heap.size ≤ q) (wLaw k dd aa ab ac ah ca ga ta tb tc td nb nv no nd gm P T K X Y C F zz SO LE RO hi s0 im fr hd nw hh qs qz it th hm ow lo)) (hS : va_S (fun q : Nat => s.heap.size ≤ q) s.heap H locs) {ls : Array Slot} (hl : lv_has ls 4 [(0, .ref b), (1, .ref (dd 0)), (2, .ref (gm 0)), (3, .int x3)]) (kk : LKK p l e s m below meth c b D k dd aa ab ac ah ca ga ta tb tc td nb nv no nd gm n x3) : W p l e room_1 s m #[Value.ref b] below meth c H locs 61 4399 (lw_Z below #[Value.ref b] s) (F0 m 510 ls []) := by
  obtain ⟨hx, hb, hr, hml, hown, hts, hX, hbl, hlocks, hgv⟩ := C0
  have hown : s.vm.findClass RL = some m.cls := hown
  have htsL : ∀ w ∈ wsL_law, w.before #[Value.ref b] s = true := fun w h => hts w (wsL_law_in w h)
  have hA : ∀ q : Nat, s.heap.size ≤ q → (fun q : Nat => s.heap.size ≤ q) q := fun _ h => h
  have hbA : ¬ (fun q : Nat => s.heap.size ≤ q) b := Nat.not_le.mpr hbl
  obtain ⟨r, e7, e8, hI'⟩ := lc_slot hn P T K X Y C F zz SO LE RO hi s0 im fr hd nw hh qs qz it th hm ow lo hI (xs (Int32.toNatClampNeg (x3 + 1))) (xs (Int32.toNatClampNeg (x3 + 2)))
  refine lv_aload_n hx hb dL_law_510 rfl (lv_at hl 1 rfl) ?_
  refine lv_aload_n hx hb dL_law_511 rfl (lv_at hl 0 rfl) ?_
  refine lv_iload_n hx hb dL_law_512 rfl (lv_at hl 3 rfl) ?_
  refine lv_iconst (v := 1) hx hb dL_law_513 (by decide) ?_
  refine lv_iadd hx hb dL_law_514 ?_
  refine va_sld hx hb hX hbl hbA hS h1 dL_law_515 ?_
  refine lv_aload_n hx hb dL_law_516 rfl (lv_at hl 0 rfl) ?_
  refine lv_iload_n hx hb dL_law_517 rfl (lv_at hl 3 rfl) ?_
  refine lv_iconst (v := 2) hx hb dL_law_518 (by decide) ?_
  refine lv_iadd hx hb dL_law_519 ?_
  refine va_sld hx hb hX hbl hbA hS h2 dL_law_520 ?_
  refine cVir (As := [.int (xs (Int32.toNatClampNeg (x3 + 1))), .int (xs (Int32.toNatClampNeg (x3 + 2)))]) (rest := []) ⟨hx, hb, hml, hown, htsL⟩ hK hA hP hD hS (mX7_slot l D k dd aa ab ac ah ca ga ta tb tc td nb nv no nd (P := P) (T := T) (K := K) (X := X) (Y := Y) (C := C) (F := F) (z := zz) (SO := SO) (LE := LE) (RO := RO) (hi := hi) e7) (cwV 2 htsL gL_law_X7_slot rfl rfl rfl kX7_slot ⟨(Nat.le_of_ble_eq_true rfl), (Nat.le_of_ble_eq_true rfl)⟩) [0, 1, 2, 3, 4, 5, 6, 7, 8, 9, 10, 11, 12, 13, 14, 15, 16, 17, 18, 19, 20, 21, 22, 23, 24, 25, 26, 27, 28, 29, 30, 31, 32, 33, 34, 35, 36, 37, 38, 39, 40, 41, 42, 43, 44, 45, 46, 47, 48, 49, 50] rfl rfl 0 rfl rfl rfl hl.1 rfl (Nat.le_of_ble_eq_true rfl) ⟨(Nat.le_of_ble_eq_true rfl), (Nat.le_of_ble_eq_true rfl)⟩ dL_law_521 (fun H locs hP hD hS => ?_)
  refine lv_aload_n hx hb dL_law_524 rfl (lv_at hl 2 rfl) ?_
  refine lv_aload_n hx hb dL_law_525 rfl (lv_at hl 0 rfl) ?_
  refine lv_iload_n hx hb dL_law_526 rfl (lv_at hl 3 rfl) ?_
  refine lv_iconst (v := 1) hx hb dL_law_527 (by decide) ?_
  refine lv_iadd hx hb dL_law_528 ?_
  refine va_sld hx hb hX hbl hbA hS h1 dL_law_529 ?_
  refine lv_aload_n hx hb dL_law_530 rfl (lv_at hl 0 rfl) ?_
  refine lv_iload_n hx hb dL_law_531 rfl (lv_at hl 3 rfl) ?_
  refine lv_iconst (v := 2) hx hb dL_law_532 (by decide) ?_
  refine lv_iadd hx hb dL_law_533 ?_
  refine va_sld hx hb hX hbl hbA hS h2 dL_law_534 ?_
  refine cVir (As := [.int (xs (Int32.toNatClampNeg (x3 + 1))), .int (xs (Int32.toNatClampNeg (x3 + 2)))]) (rest := [.int r]) ⟨hx, hb, hml, hown, htsL⟩ hK hA hP hD hS (mX8_slot l D k gm (s := s0) (im := im) (fr := fr) (hd := hd) (nw := nw) (hh := hh) (qs := qs) (qz := qz) (it := it) (th := th) (hm := hm) (ow := ow) (lo := lo) e8) (cwV 2 htsL gL_law_X8_slot rfl rfl rfl kX8_slot ⟨(Nat.le_of_ble_eq_true rfl), (Nat.le_of_ble_eq_true rfl)⟩) [51, 52, 53, 54, 55, 56, 57, 58, 59, 60] rfl rfl 0 rfl rfl rfl hl.1 rfl (Nat.le_of_ble_eq_true rfl) ⟨(Nat.le_of_ble_eq_true rfl), (Nat.le_of_ble_eq_true rfl)⟩ dL_law_535 (fun H locs hP hD hS => ?_)
  refine lv_icmp_eq (tgt := 1295) hx hb dL_law_538 (by decide) (fun _ => ?_) (fun c1 => absurd rfl c1)
  exact kk P T K X Y C F zz SO LE RO hi s0 im fr hd nw hh qs qz it th hm ow lo hI' H locs hP hD hS ls hl
set_option maxRecDepth 100000 in
set_option maxHeartbeats 4000000 in
theorem law_block {p : Program} {l : Launch} {e : Env} {s : State} {m : MethodId} {below : List Frame} {meth : Method} {c : Code} {b L : Nat} {xs : Nat → Int32} (C0 : lw_At p s m meth c b L xs) {D : va_G} {k : Nat → ClassId} (hK : va_K D vwCl (kTy k) s) {dd : Nat → Nat} {aa : Nat → Nat} {ab : Nat → Nat} {ac : Nat → Nat} {ah : Nat → Nat} {ca : Nat → Nat} {ga : Nat → Nat} {ta : Nat → Nat} {tb : Nat → Nat} {tc : Nat → Nat} {td : Nat → Nat} {nb : Nat} {nv : Nat} {no : Nat} {nd : Nat} {gm : Nat → Nat} {P : Nat → Nat → Int32} {T : Nat → Nat → Int32} {K : Nat → Nat → Int32} {X : Nat → Int32} {Y : Nat → Int32} {C : Nat → Int32} {F : Nat → Int64} {zz : Int32} {SO : Nat → Int32} {LE : Nat → Int32} {RO : Nat → Nat → Int64} {hi : Int32} {s0 : Nat → Int32} {im : Nat → Int32} {fr : Nat → Int32} {hd : Nat → Int32} {nw : Nat → Int32} {hh : Nat → Int32} {qs : Nat → Int32} {qz : Nat → Int32} {it : Nat → Int64} {th : Int32} {hm : Int32} {ow : Int32} {lo : Int32} {n : Nat} (hn : n ≤ 600) (hI : LI n P K hi SO LE RO s0 im hm qs qz it) {x3 : Int32} (h1 : vp_in (x3 + 1) L) (h2 : vp_in (x3 + 2) L) (h3 : vp_in (x3 + 3) L) (h4 : vp_in (x3 + 4) L) {H : Heap} {locs : List Loc} (hP : va_P D vwCl (wLaw k dd aa ab ac ah ca ga ta tb tc td nb nv no nd gm P T K X Y C F zz SO LE RO hi s0 im fr hd nw hh qs qz it th hm ow lo) H) (hD : va_D (fun q : Nat => s.heap.size ≤ q) (wLaw k dd aa ab ac ah ca ga ta tb tc td nb nv no nd gm P T K X Y C F zz SO LE RO hi s0 im fr hd nw hh qs qz it th hm ow lo)) (hS : va_S (fun q : Nat => s.heap.size ≤ q) s.heap H locs) {ls : Array Slot} (hl : lv_has ls 4 [(0, .ref b), (1, .ref (dd 0)), (2, .ref (gm 0)), (3, .int x3)]) (kk : LKK p l e s m below meth c b D k dd aa ab ac ah ca ga ta tb tc td nb nv no nd gm n x3) : W p l e room_1 s m #[Value.ref b] below meth c H locs 61 4399 (lw_Z below #[Value.ref b] s) (F0 m 543 ls []) := by
  obtain ⟨hx, hb, hr, hml, hown, hts, hX, hbl, hlocks, hgv⟩ := C0
  have hown : s.vm.findClass RL = some m.cls := hown
  have htsL : ∀ w ∈ wsL_law, w.before #[Value.ref b] s = true := fun w h => hts w (wsL_law_in w h)
  have hA : ∀ q : Nat, s.heap.size ≤ q → (fun q : Nat => s.heap.size ≤ q) q := fun _ h => h
  have hbA : ¬ (fun q : Nat => s.heap.size ≤ q) b := Nat.not_le.mpr hbl
  obtain ⟨r, X', hd', e7, e8, hI'⟩ := lc_block hn P T K X Y C F zz SO LE RO hi s0 im fr hd nw hh qs qz it th hm ow lo hI (xs (Int32.toNatClampNeg (x3 + 1))) (xs (Int32.toNatClampNeg (x3 + 2)))
  refine lv_aload_n hx hb dL_law_543 rfl (lv_at hl 1 rfl) ?_
  refine lv_aload_n hx hb dL_law_544 rfl (lv_at hl 0 rfl) ?_
  refine lv_iload_n hx hb dL_law_545 rfl (lv_at hl 3 rfl) ?_
  refine lv_iconst (v := 1) hx hb dL_law_546 (by decide) ?_
  refine lv_iadd hx hb dL_law_547 ?_
  refine va_sld hx hb hX hbl hbA hS h1 dL_law_548 ?_
  refine lv_aload_n hx hb dL_law_549 rfl (lv_at hl 0 rfl) ?_
  refine lv_iload_n hx hb dL_law_550 rfl (lv_at hl 3 rfl) ?_
  refine lv_iconst (v := 2) hx hb dL_law_551 (by decide) ?_
  refine lv_iadd hx hb dL_law_552 ?_
  refine va_sld hx hb hX hbl hbA hS h2 dL_law_553 ?_
  refine cVi (wf := (wLaw k dd aa ab ac ah ca ga ta tb tc td nb nv no nd gm P T K X' Y C F zz SO LE RO hi s0 im fr hd nw hh qs qz it th hm ow lo)) (As := [.int (xs (Int32.toNatClampNeg (x3 + 1))), .int (xs (Int32.toNatClampNeg (x3 + 2)))]) (rest := []) ⟨hx, hb, hml, hown, htsL⟩ hK hA hP hD hS (mX7_block l D k dd aa ab ac ah ca ga ta tb tc td nb nv no nd (P := P) (T := T) (K := K) (X_0 := X) (Y := Y) (C := C) (F := F) (z := zz) (SO := SO) (LE := LE) (RO := RO) (hi := hi) e7) (cwV 2 htsL gL_law_X7_block rfl rfl rfl kX7_block ⟨(Nat.le_of_ble_eq_true rfl), (Nat.le_of_ble_eq_true rfl)⟩) [0, 1, 2, 3, 4, 5, 6, 7, 8, 9, 10, 11, 12, 13, 14, 15, 16, 17, 18, 19, 20, 21, 22, 23, 24, 25, 26, 27, 28, 29, 30, 31, 32, 33, 34, 35, 36, 37, 38, 39, 40, 41, 42, 43, 44, 45, 46, 47, 48, 49, 50] rfl rfl rfl [false, false, false, false, false, false, false, false, false, false, false, false, false, false, false, false, false, false, false, false, false, false, false, false, false, false, false, false, false, false, false, false, false, false, false, false, false, false, false, false, false, false, false, false, false, false, false, false, false, false, false, true, true, true, true, true, true, true, true, true, true] ⟨rfl, rfl, rfl, rfl, rfl, rfl, rfl, rfl, rfl, rfl, trivial⟩ 61 rfl (by decide +kernel) rfl 0 rfl rfl rfl hl.1 rfl (Nat.le_of_ble_eq_true rfl) ⟨(Nat.le_of_ble_eq_true rfl), (Nat.le_of_ble_eq_true rfl)⟩ dL_law_554 (fun H locs hP hD hS => ?_)
  refine lv_aload_n hx hb dL_law_557 rfl (lv_at hl 2 rfl) ?_
  refine lv_aload_n hx hb dL_law_558 rfl (lv_at hl 0 rfl) ?_
  refine lv_iload_n hx hb dL_law_559 rfl (lv_at hl 3 rfl) ?_
  refine lv_iconst (v := 1) hx hb dL_law_560 (by decide) ?_
  refine lv_iadd hx hb dL_law_561 ?_
  refine va_sld hx hb hX hbl hbA hS h1 dL_law_562 ?_
  refine lv_aload_n hx hb dL_law_563 rfl (lv_at hl 0 rfl) ?_
  refine lv_iload_n hx hb dL_law_564 rfl (lv_at hl 3 rfl) ?_
  refine lv_iconst (v := 2) hx hb dL_law_565 (by decide) ?_
  refine lv_iadd hx hb dL_law_566 ?_
  refine va_sld hx hb hX hbl hbA hS h2 dL_law_567 ?_
  refine cVi (wf := (wLaw k dd aa ab ac ah ca ga ta tb tc td nb nv no nd gm P T K X' Y C F zz SO LE RO hi s0 im fr hd' nw hh qs qz it th hm ow lo)) (As := [.int (xs (Int32.toNatClampNeg (x3 + 1))), .int (xs (Int32.toNatClampNeg (x3 + 2)))]) (rest := [.int r]) ⟨hx, hb, hml, hown, htsL⟩ hK hA hP hD hS (mX8_block l D k gm (s := s0) (im := im) (fr := fr) (hd_0 := hd) (nw := nw) (hh := hh) (qs := qs) (qz := qz) (it := it) (th := th) (hm := hm) (ow := ow) (lo := lo) e8) (cwV 2 htsL gL_law_X8_block rfl rfl rfl kX8_block ⟨(Nat.le_of_ble_eq_true rfl), (Nat.le_of_ble_eq_true rfl)⟩) [51, 52, 53, 54, 55, 56, 57, 58, 59, 60] rfl rfl rfl [true, true, true, true, true, true, true, true, true, true, true, true, true, true, true, true, true, true, true, true, true, true, true, true, true, true, true, true, true, true, true, true, true, true, true, true, true, true, true, true, true, true, true, true, true, true, true, true, true, true, true, false, false, false, false, false, false, false, false, false, false] ⟨rfl, rfl, rfl, rfl, rfl, rfl, rfl, rfl, rfl, rfl, rfl, rfl, rfl, rfl, rfl, rfl, rfl, rfl, rfl, rfl, rfl, rfl, rfl, rfl, rfl, rfl, rfl, rfl, rfl, rfl, rfl, rfl, rfl, rfl, rfl, rfl, rfl, rfl, rfl, rfl, rfl, rfl, rfl, rfl, rfl, rfl, rfl, rfl, rfl, rfl, rfl, trivial⟩ 61 rfl (by decide +kernel) rfl 0 rfl rfl rfl hl.1 rfl (Nat.le_of_ble_eq_true rfl) ⟨(Nat.le_of_ble_eq_true rfl), (Nat.le_of_ble_eq_true rfl)⟩ dL_law_568 (fun H locs hP hD hS => ?_)
  refine lv_icmp_eq (tgt := 1295) hx hb dL_law_571 (by decide) (fun _ => ?_) (fun c1 => absurd rfl c1)
  exact kk P T K X' Y C F zz SO LE RO hi s0 im fr hd' nw hh qs qz it th hm ow lo hI' H locs hP hD hS ls hl
set_option maxRecDepth 100000 in
set_option maxHeartbeats 4000000 in
theorem law_taken {p : Program} {l : Launch} {e : Env} {s : State} {m : MethodId} {below : List Frame} {meth : Method} {c : Code} {b L : Nat} {xs : Nat → Int32} (C0 : lw_At p s m meth c b L xs) {D : va_G} {k : Nat → ClassId} (hK : va_K D vwCl (kTy k) s) {dd : Nat → Nat} {aa : Nat → Nat} {ab : Nat → Nat} {ac : Nat → Nat} {ah : Nat → Nat} {ca : Nat → Nat} {ga : Nat → Nat} {ta : Nat → Nat} {tb : Nat → Nat} {tc : Nat → Nat} {td : Nat → Nat} {nb : Nat} {nv : Nat} {no : Nat} {nd : Nat} {gm : Nat → Nat} {P : Nat → Nat → Int32} {T : Nat → Nat → Int32} {K : Nat → Nat → Int32} {X : Nat → Int32} {Y : Nat → Int32} {C : Nat → Int32} {F : Nat → Int64} {zz : Int32} {SO : Nat → Int32} {LE : Nat → Int32} {RO : Nat → Nat → Int64} {hi : Int32} {s0 : Nat → Int32} {im : Nat → Int32} {fr : Nat → Int32} {hd : Nat → Int32} {nw : Nat → Int32} {hh : Nat → Int32} {qs : Nat → Int32} {qz : Nat → Int32} {it : Nat → Int64} {th : Int32} {hm : Int32} {ow : Int32} {lo : Int32} {n : Nat} (hn : n ≤ 600) (hI : LI n P K hi SO LE RO s0 im hm qs qz it) {x3 : Int32} (h1 : vp_in (x3 + 1) L) (h2 : vp_in (x3 + 2) L) (h3 : vp_in (x3 + 3) L) (h4 : vp_in (x3 + 4) L) {H : Heap} {locs : List Loc} (hP : va_P D vwCl (wLaw k dd aa ab ac ah ca ga ta tb tc td nb nv no nd gm P T K X Y C F zz SO LE RO hi s0 im fr hd nw hh qs qz it th hm ow lo) H) (hD : va_D (fun q : Nat => s.heap.size ≤ q) (wLaw k dd aa ab ac ah ca ga ta tb tc td nb nv no nd gm P T K X Y C F zz SO LE RO hi s0 im fr hd nw hh qs qz it th hm ow lo)) (hS : va_S (fun q : Nat => s.heap.size ≤ q) s.heap H locs) {ls : Array Slot} (hl : lv_has ls 4 [(0, .ref b), (1, .ref (dd 0)), (2, .ref (gm 0)), (3, .int x3)]) (kk : LKK p l e s m below meth c b D k dd aa ab ac ah ca ga ta tb tc td nb nv no nd gm n x3) : W p l e room_1 s m #[Value.ref b] below meth c H locs 61 4399 (lw_Z below #[Value.ref b] s) (F0 m 576 ls []) := by
  obtain ⟨hx, hb, hr, hml, hown, hts, hX, hbl, hlocks, hgv⟩ := C0
  have hown : s.vm.findClass RL = some m.cls := hown
  have htsL : ∀ w ∈ wsL_law, w.before #[Value.ref b] s = true := fun w h => hts w (wsL_law_in w h)
  have hA : ∀ q : Nat, s.heap.size ≤ q → (fun q : Nat => s.heap.size ≤ q) q := fun _ h => h
  have hbA : ¬ (fun q : Nat => s.heap.size ≤ q) b := Nat.not_le.mpr hbl
  obtain ⟨r, e7, e8, hI'⟩ := lc_taken hn P T K X Y C F zz SO LE RO hi s0 im fr hd nw hh qs qz it th hm ow lo hI (xs (Int32.toNatClampNeg (x3 + 1))) (xs (Int32.toNatClampNeg (x3 + 2)))
  refine lv_aload_n hx hb dL_law_576 rfl (lv_at hl 1 rfl) ?_
  refine lv_aload_n hx hb dL_law_577 rfl (lv_at hl 0 rfl) ?_
  refine lv_iload_n hx hb dL_law_578 rfl (lv_at hl 3 rfl) ?_
  refine lv_iconst (v := 1) hx hb dL_law_579 (by decide) ?_
  refine lv_iadd hx hb dL_law_580 ?_
  refine va_sld hx hb hX hbl hbA hS h1 dL_law_581 ?_
  refine lv_aload_n hx hb dL_law_582 rfl (lv_at hl 0 rfl) ?_
  refine lv_iload_n hx hb dL_law_583 rfl (lv_at hl 3 rfl) ?_
  refine lv_iconst (v := 2) hx hb dL_law_584 (by decide) ?_
  refine lv_iadd hx hb dL_law_585 ?_
  refine va_sld hx hb hX hbl hbA hS h2 dL_law_586 ?_
  refine cVir (As := [.int (xs (Int32.toNatClampNeg (x3 + 1))), .int (xs (Int32.toNatClampNeg (x3 + 2)))]) (rest := []) ⟨hx, hb, hml, hown, htsL⟩ hK hA hP hD hS (mX7_taken l D k dd aa ab ac ah ca ga ta tb tc td nb nv no nd (P := P) (T := T) (K := K) (X := X) (Y := Y) (C := C) (F := F) (z := zz) (SO := SO) (LE := LE) (RO := RO) (hi := hi) e7) (cwV 2 htsL gL_law_X7_taken rfl rfl rfl kX7_taken ⟨(Nat.le_of_ble_eq_true rfl), (Nat.le_of_ble_eq_true rfl)⟩) [0, 1, 2, 3, 4, 5, 6, 7, 8, 9, 10, 11, 12, 13, 14, 15, 16, 17, 18, 19, 20, 21, 22, 23, 24, 25, 26, 27, 28, 29, 30, 31, 32, 33, 34, 35, 36, 37, 38, 39, 40, 41, 42, 43, 44, 45, 46, 47, 48, 49, 50] rfl rfl 0 rfl rfl rfl hl.1 rfl (Nat.le_of_ble_eq_true rfl) ⟨(Nat.le_of_ble_eq_true rfl), (Nat.le_of_ble_eq_true rfl)⟩ dL_law_587 (fun H locs hP hD hS => ?_)
  refine lv_aload_n hx hb dL_law_590 rfl (lv_at hl 2 rfl) ?_
  refine lv_aload_n hx hb dL_law_591 rfl (lv_at hl 0 rfl) ?_
  refine lv_iload_n hx hb dL_law_592 rfl (lv_at hl 3 rfl) ?_
  refine lv_iconst (v := 1) hx hb dL_law_593 (by decide) ?_
  refine lv_iadd hx hb dL_law_594 ?_
  refine va_sld hx hb hX hbl hbA hS h1 dL_law_595 ?_
  refine lv_aload_n hx hb dL_law_596 rfl (lv_at hl 0 rfl) ?_
  refine lv_iload_n hx hb dL_law_597 rfl (lv_at hl 3 rfl) ?_
  refine lv_iconst (v := 2) hx hb dL_law_598 (by decide) ?_
  refine lv_iadd hx hb dL_law_599 ?_
  refine va_sld hx hb hX hbl hbA hS h2 dL_law_600 ?_
  refine cVir (As := [.int (xs (Int32.toNatClampNeg (x3 + 1))), .int (xs (Int32.toNatClampNeg (x3 + 2)))]) (rest := [.int r]) ⟨hx, hb, hml, hown, htsL⟩ hK hA hP hD hS (mX8_taken l D k gm (s := s0) (im := im) (fr := fr) (hd := hd) (nw := nw) (hh := hh) (qs := qs) (qz := qz) (it := it) (th := th) (hm := hm) (ow := ow) (lo := lo) e8) (cwV 2 htsL gL_law_X8_taken rfl rfl rfl kX8_taken ⟨(Nat.le_of_ble_eq_true rfl), (Nat.le_of_ble_eq_true rfl)⟩) [51, 52, 53, 54, 55, 56, 57, 58, 59, 60] rfl rfl 0 rfl rfl rfl hl.1 rfl (Nat.le_of_ble_eq_true rfl) ⟨(Nat.le_of_ble_eq_true rfl), (Nat.le_of_ble_eq_true rfl)⟩ dL_law_601 (fun H locs hP hD hS => ?_)
  refine lv_icmp_eq (tgt := 1295) hx hb dL_law_604 (by decide) (fun _ => ?_) (fun c1 => absurd rfl c1)
  exact kk P T K X Y C F zz SO LE RO hi s0 im fr hd nw hh qs qz it th hm ow lo hI' H locs hP hD hS ls hl
set_option maxRecDepth 100000 in
set_option maxHeartbeats 4000000 in
theorem law_dead {p : Program} {l : Launch} {e : Env} {s : State} {m : MethodId} {below : List Frame} {meth : Method} {c : Code} {b L : Nat} {xs : Nat → Int32} (C0 : lw_At p s m meth c b L xs) {D : va_G} {k : Nat → ClassId} (hK : va_K D vwCl (kTy k) s) {dd : Nat → Nat} {aa : Nat → Nat} {ab : Nat → Nat} {ac : Nat → Nat} {ah : Nat → Nat} {ca : Nat → Nat} {ga : Nat → Nat} {ta : Nat → Nat} {tb : Nat → Nat} {tc : Nat → Nat} {td : Nat → Nat} {nb : Nat} {nv : Nat} {no : Nat} {nd : Nat} {gm : Nat → Nat} {P : Nat → Nat → Int32} {T : Nat → Nat → Int32} {K : Nat → Nat → Int32} {X : Nat → Int32} {Y : Nat → Int32} {C : Nat → Int32} {F : Nat → Int64} {zz : Int32} {SO : Nat → Int32} {LE : Nat → Int32} {RO : Nat → Nat → Int64} {hi : Int32} {s0 : Nat → Int32} {im : Nat → Int32} {fr : Nat → Int32} {hd : Nat → Int32} {nw : Nat → Int32} {hh : Nat → Int32} {qs : Nat → Int32} {qz : Nat → Int32} {it : Nat → Int64} {th : Int32} {hm : Int32} {ow : Int32} {lo : Int32} {n : Nat} (hn : n ≤ 600) (hI : LI n P K hi SO LE RO s0 im hm qs qz it) {x3 : Int32} (h1 : vp_in (x3 + 1) L) (h2 : vp_in (x3 + 2) L) (h3 : vp_in (x3 + 3) L) (h4 : vp_in (x3 + 4) L) {H : Heap} {locs : List Loc} (hP : va_P D vwCl (wLaw k dd aa ab ac ah ca ga ta tb tc td nb nv no nd gm P T K X Y C F zz SO LE RO hi s0 im fr hd nw hh qs qz it th hm ow lo) H) (hD : va_D (fun q : Nat => s.heap.size ≤ q) (wLaw k dd aa ab ac ah ca ga ta tb tc td nb nv no nd gm P T K X Y C F zz SO LE RO hi s0 im fr hd nw hh qs qz it th hm ow lo)) (hS : va_S (fun q : Nat => s.heap.size ≤ q) s.heap H locs) {ls : Array Slot} (hl : lv_has ls 4 [(0, .ref b), (1, .ref (dd 0)), (2, .ref (gm 0)), (3, .int x3)]) (kk : LKK p l e s m below meth c b D k dd aa ab ac ah ca ga ta tb tc td nb nv no nd gm n x3) : W p l e room_1 s m #[Value.ref b] below meth c H locs 61 4399 (lw_Z below #[Value.ref b] s) (F0 m 609 ls []) := by
  obtain ⟨hx, hb, hr, hml, hown, hts, hX, hbl, hlocks, hgv⟩ := C0
  have hown : s.vm.findClass RL = some m.cls := hown
  have htsL : ∀ w ∈ wsL_law, w.before #[Value.ref b] s = true := fun w h => hts w (wsL_law_in w h)
  have hA : ∀ q : Nat, s.heap.size ≤ q → (fun q : Nat => s.heap.size ≤ q) q := fun _ h => h
  have hbA : ¬ (fun q : Nat => s.heap.size ≤ q) b := Nat.not_le.mpr hbl
  obtain ⟨r, e7, e8, hI'⟩ := lc_dead hn P T K X Y C F zz SO LE RO hi s0 im fr hd nw hh qs qz it th hm ow lo hI (xs (Int32.toNatClampNeg (x3 + 1))) (xs (Int32.toNatClampNeg (x3 + 2)))
  refine lv_aload_n hx hb dL_law_609 rfl (lv_at hl 1 rfl) ?_
  refine lv_aload_n hx hb dL_law_610 rfl (lv_at hl 0 rfl) ?_
  refine lv_iload_n hx hb dL_law_611 rfl (lv_at hl 3 rfl) ?_
  refine lv_iconst (v := 1) hx hb dL_law_612 (by decide) ?_
  refine lv_iadd hx hb dL_law_613 ?_
  refine va_sld hx hb hX hbl hbA hS h1 dL_law_614 ?_
  refine lv_aload_n hx hb dL_law_615 rfl (lv_at hl 0 rfl) ?_
  refine lv_iload_n hx hb dL_law_616 rfl (lv_at hl 3 rfl) ?_
  refine lv_iconst (v := 2) hx hb dL_law_617 (by decide) ?_
  refine lv_iadd hx hb dL_law_618 ?_
  refine va_sld hx hb hX hbl hbA hS h2 dL_law_619 ?_
  refine cVir (As := [.int (xs (Int32.toNatClampNeg (x3 + 1))), .int (xs (Int32.toNatClampNeg (x3 + 2)))]) (rest := []) ⟨hx, hb, hml, hown, htsL⟩ hK hA hP hD hS (mX7_dead l D k dd aa ab ac ah ca ga ta tb tc td nb nv no nd (P := P) (T := T) (K := K) (X := X) (Y := Y) (C := C) (F := F) (z := zz) (SO := SO) (LE := LE) (RO := RO) (hi := hi) e7) (cwV 2 htsL gL_law_X7_dead rfl rfl rfl kX7_dead ⟨(Nat.le_of_ble_eq_true rfl), (Nat.le_of_ble_eq_true rfl)⟩) [0, 1, 2, 3, 4, 5, 6, 7, 8, 9, 10, 11, 12, 13, 14, 15, 16, 17, 18, 19, 20, 21, 22, 23, 24, 25, 26, 27, 28, 29, 30, 31, 32, 33, 34, 35, 36, 37, 38, 39, 40, 41, 42, 43, 44, 45, 46, 47, 48, 49, 50] rfl rfl 0 rfl rfl rfl hl.1 rfl (Nat.le_of_ble_eq_true rfl) ⟨(Nat.le_of_ble_eq_true rfl), (Nat.le_of_ble_eq_true rfl)⟩ dL_law_620 (fun H locs hP hD hS => ?_)
  refine lv_aload_n hx hb dL_law_623 rfl (lv_at hl 2 rfl) ?_
  refine lv_aload_n hx hb dL_law_624 rfl (lv_at hl 0 rfl) ?_
  refine lv_iload_n hx hb dL_law_625 rfl (lv_at hl 3 rfl) ?_
  refine lv_iconst (v := 1) hx hb dL_law_626 (by decide) ?_
  refine lv_iadd hx hb dL_law_627 ?_
  refine va_sld hx hb hX hbl hbA hS h1 dL_law_628 ?_
  refine lv_aload_n hx hb dL_law_629 rfl (lv_at hl 0 rfl) ?_
  refine lv_iload_n hx hb dL_law_630 rfl (lv_at hl 3 rfl) ?_
  refine lv_iconst (v := 2) hx hb dL_law_631 (by decide) ?_
  refine lv_iadd hx hb dL_law_632 ?_
  refine va_sld hx hb hX hbl hbA hS h2 dL_law_633 ?_
  refine cVir (As := [.int (xs (Int32.toNatClampNeg (x3 + 1))), .int (xs (Int32.toNatClampNeg (x3 + 2)))]) (rest := [.int r]) ⟨hx, hb, hml, hown, htsL⟩ hK hA hP hD hS (mX8_dead l D k gm (s := s0) (im := im) (fr := fr) (hd := hd) (nw := nw) (hh := hh) (qs := qs) (qz := qz) (it := it) (th := th) (hm := hm) (ow := ow) (lo := lo) e8) (cwV 2 htsL gL_law_X8_dead rfl rfl rfl kX8_dead ⟨(Nat.le_of_ble_eq_true rfl), (Nat.le_of_ble_eq_true rfl)⟩) [51, 52, 53, 54, 55, 56, 57, 58, 59, 60] rfl rfl 0 rfl rfl rfl hl.1 rfl (Nat.le_of_ble_eq_true rfl) ⟨(Nat.le_of_ble_eq_true rfl), (Nat.le_of_ble_eq_true rfl)⟩ dL_law_634 (fun H locs hP hD hS => ?_)
  refine lv_icmp_eq (tgt := 1295) hx hb dL_law_637 (by decide) (fun _ => ?_) (fun c1 => absurd rfl c1)
  exact kk P T K X Y C F zz SO LE RO hi s0 im fr hd nw hh qs qz it th hm ow lo hI' H locs hP hD hS ls hl
set_option maxRecDepth 100000 in
set_option maxHeartbeats 4000000 in
theorem law_deadList {p : Program} {l : Launch} {e : Env} {s : State} {m : MethodId} {below : List Frame} {meth : Method} {c : Code} {b L : Nat} {xs : Nat → Int32} (C0 : lw_At p s m meth c b L xs) {D : va_G} {k : Nat → ClassId} (hK : va_K D vwCl (kTy k) s) {dd : Nat → Nat} {aa : Nat → Nat} {ab : Nat → Nat} {ac : Nat → Nat} {ah : Nat → Nat} {ca : Nat → Nat} {ga : Nat → Nat} {ta : Nat → Nat} {tb : Nat → Nat} {tc : Nat → Nat} {td : Nat → Nat} {nb : Nat} {nv : Nat} {no : Nat} {nd : Nat} {gm : Nat → Nat} {P : Nat → Nat → Int32} {T : Nat → Nat → Int32} {K : Nat → Nat → Int32} {X : Nat → Int32} {Y : Nat → Int32} {C : Nat → Int32} {F : Nat → Int64} {zz : Int32} {SO : Nat → Int32} {LE : Nat → Int32} {RO : Nat → Nat → Int64} {hi : Int32} {s0 : Nat → Int32} {im : Nat → Int32} {fr : Nat → Int32} {hd : Nat → Int32} {nw : Nat → Int32} {hh : Nat → Int32} {qs : Nat → Int32} {qz : Nat → Int32} {it : Nat → Int64} {th : Int32} {hm : Int32} {ow : Int32} {lo : Int32} {n : Nat} (hn : n ≤ 600) (hI : LI n P K hi SO LE RO s0 im hm qs qz it) {x3 : Int32} (h1 : vp_in (x3 + 1) L) (h2 : vp_in (x3 + 2) L) (h3 : vp_in (x3 + 3) L) (h4 : vp_in (x3 + 4) L) {H : Heap} {locs : List Loc} (hP : va_P D vwCl (wLaw k dd aa ab ac ah ca ga ta tb tc td nb nv no nd gm P T K X Y C F zz SO LE RO hi s0 im fr hd nw hh qs qz it th hm ow lo) H) (hD : va_D (fun q : Nat => s.heap.size ≤ q) (wLaw k dd aa ab ac ah ca ga ta tb tc td nb nv no nd gm P T K X Y C F zz SO LE RO hi s0 im fr hd nw hh qs qz it th hm ow lo)) (hS : va_S (fun q : Nat => s.heap.size ≤ q) s.heap H locs) {ls : Array Slot} (hl : lv_has ls 4 [(0, .ref b), (1, .ref (dd 0)), (2, .ref (gm 0)), (3, .int x3)]) (kk : LKK p l e s m below meth c b D k dd aa ab ac ah ca ga ta tb tc td nb nv no nd gm n x3) : W p l e room_1 s m #[Value.ref b] below meth c H locs 61 4399 (lw_Z below #[Value.ref b] s) (F0 m 642 ls []) := by
  obtain ⟨hx, hb, hr, hml, hown, hts, hX, hbl, hlocks, hgv⟩ := C0
  have hown : s.vm.findClass RL = some m.cls := hown
  have htsL : ∀ w ∈ wsL_law, w.before #[Value.ref b] s = true := fun w h => hts w (wsL_law_in w h)
  have hA : ∀ q : Nat, s.heap.size ≤ q → (fun q : Nat => s.heap.size ≤ q) q := fun _ h => h
  have hbA : ¬ (fun q : Nat => s.heap.size ≤ q) b := Nat.not_le.mpr hbl
  obtain ⟨r, e7, e8, hI'⟩ := lc_deadList hn P T K X Y C F zz SO LE RO hi s0 im fr hd nw hh qs qz it th hm ow lo hI (xs (Int32.toNatClampNeg (x3 + 1))) (xs (Int32.toNatClampNeg (x3 + 2)))
  refine lv_aload_n hx hb dL_law_642 rfl (lv_at hl 1 rfl) ?_
  refine lv_aload_n hx hb dL_law_643 rfl (lv_at hl 0 rfl) ?_
  refine lv_iload_n hx hb dL_law_644 rfl (lv_at hl 3 rfl) ?_
  refine lv_iconst (v := 1) hx hb dL_law_645 (by decide) ?_
  refine lv_iadd hx hb dL_law_646 ?_
  refine va_sld hx hb hX hbl hbA hS h1 dL_law_647 ?_
  refine lv_aload_n hx hb dL_law_648 rfl (lv_at hl 0 rfl) ?_
  refine lv_iload_n hx hb dL_law_649 rfl (lv_at hl 3 rfl) ?_
  refine lv_iconst (v := 2) hx hb dL_law_650 (by decide) ?_
  refine lv_iadd hx hb dL_law_651 ?_
  refine va_sld hx hb hX hbl hbA hS h2 dL_law_652 ?_
  refine cVlr (As := [.int (xs (Int32.toNatClampNeg (x3 + 1))), .int (xs (Int32.toNatClampNeg (x3 + 2)))]) (rest := []) ⟨hx, hb, hml, hown, htsL⟩ hK hA hP hD hS (mX7_deadList l D k dd aa ab ac ah ca ga ta tb tc td nb nv no nd (P := P) (T := T) (K := K) (X := X) (Y := Y) (C := C) (F := F) (z := zz) (SO := SO) (LE := LE) (RO := RO) (hi := hi) e7) (cwV 2 htsL gL_law_X7_deadList rfl rfl rfl kX7_deadList ⟨(Nat.le_of_ble_eq_true rfl), (Nat.le_of_ble_eq_true rfl)⟩) [0, 1, 2, 3, 4, 5, 6, 7, 8, 9, 10, 11, 12, 13, 14, 15, 16, 17, 18, 19, 20, 21, 22, 23, 24, 25, 26, 27, 28, 29, 30, 31, 32, 33, 34, 35, 36, 37, 38, 39, 40, 41, 42, 43, 44, 45, 46, 47, 48, 49, 50] rfl rfl 0 rfl rfl rfl hl.1 rfl (Nat.le_of_ble_eq_true rfl) ⟨(Nat.le_of_ble_eq_true rfl), (Nat.le_of_ble_eq_true rfl)⟩ dL_law_653 (fun H locs hP hD hS => ?_)
  refine lv_aload_n hx hb dL_law_656 rfl (lv_at hl 2 rfl) ?_
  refine lv_aload_n hx hb dL_law_657 rfl (lv_at hl 0 rfl) ?_
  refine lv_iload_n hx hb dL_law_658 rfl (lv_at hl 3 rfl) ?_
  refine lv_iconst (v := 1) hx hb dL_law_659 (by decide) ?_
  refine lv_iadd hx hb dL_law_660 ?_
  refine va_sld hx hb hX hbl hbA hS h1 dL_law_661 ?_
  refine lv_aload_n hx hb dL_law_662 rfl (lv_at hl 0 rfl) ?_
  refine lv_iload_n hx hb dL_law_663 rfl (lv_at hl 3 rfl) ?_
  refine lv_iconst (v := 2) hx hb dL_law_664 (by decide) ?_
  refine lv_iadd hx hb dL_law_665 ?_
  refine va_sld hx hb hX hbl hbA hS h2 dL_law_666 ?_
  refine cVlr (As := [.int (xs (Int32.toNatClampNeg (x3 + 1))), .int (xs (Int32.toNatClampNeg (x3 + 2)))]) (rest := [.long r]) ⟨hx, hb, hml, hown, htsL⟩ hK hA hP hD hS (mX8_deadList l D k gm (s := s0) (im := im) (fr := fr) (hd := hd) (nw := nw) (hh := hh) (qs := qs) (qz := qz) (it := it) (th := th) (hm := hm) (ow := ow) (lo := lo) e8) (cwV 2 htsL gL_law_X8_deadList rfl rfl rfl kX8_deadList ⟨(Nat.le_of_ble_eq_true rfl), (Nat.le_of_ble_eq_true rfl)⟩) [51, 52, 53, 54, 55, 56, 57, 58, 59, 60] rfl rfl 0 rfl rfl rfl hl.1 rfl (Nat.le_of_ble_eq_true rfl) ⟨(Nat.le_of_ble_eq_true rfl), (Nat.le_of_ble_eq_true rfl)⟩ dL_law_667 (fun H locs hP hD hS => ?_)
  refine W.lcmp hx hb dL_law_670 ?_
  refine lv_if_eq (tgt := 1295) hx hb dL_law_671 (by decide) (fun _ => ?_) (fun c1 => absurd ((lg_cmp_eq r r).mpr rfl) c1)
  exact kk P T K X Y C F zz SO LE RO hi s0 im fr hd nw hh qs qz it th hm ow lo hI' H locs hP hD hS ls hl
set_option maxRecDepth 100000 in
set_option maxHeartbeats 4000000 in
theorem law_space {p : Program} {l : Launch} {e : Env} {s : State} {m : MethodId} {below : List Frame} {meth : Method} {c : Code} {b L : Nat} {xs : Nat → Int32} (C0 : lw_At p s m meth c b L xs) {D : va_G} {k : Nat → ClassId} (hK : va_K D vwCl (kTy k) s) {dd : Nat → Nat} {aa : Nat → Nat} {ab : Nat → Nat} {ac : Nat → Nat} {ah : Nat → Nat} {ca : Nat → Nat} {ga : Nat → Nat} {ta : Nat → Nat} {tb : Nat → Nat} {tc : Nat → Nat} {td : Nat → Nat} {nb : Nat} {nv : Nat} {no : Nat} {nd : Nat} {gm : Nat → Nat} {P : Nat → Nat → Int32} {T : Nat → Nat → Int32} {K : Nat → Nat → Int32} {X : Nat → Int32} {Y : Nat → Int32} {C : Nat → Int32} {F : Nat → Int64} {zz : Int32} {SO : Nat → Int32} {LE : Nat → Int32} {RO : Nat → Nat → Int64} {hi : Int32} {s0 : Nat → Int32} {im : Nat → Int32} {fr : Nat → Int32} {hd : Nat → Int32} {nw : Nat → Int32} {hh : Nat → Int32} {qs : Nat → Int32} {qz : Nat → Int32} {it : Nat → Int64} {th : Int32} {hm : Int32} {ow : Int32} {lo : Int32} {n : Nat} (hn : n ≤ 600) (hI : LI n P K hi SO LE RO s0 im hm qs qz it) {x3 : Int32} (h1 : vp_in (x3 + 1) L) (h2 : vp_in (x3 + 2) L) (h3 : vp_in (x3 + 3) L) (h4 : vp_in (x3 + 4) L) {H : Heap} {locs : List Loc} (hP : va_P D vwCl (wLaw k dd aa ab ac ah ca ga ta tb tc td nb nv no nd gm P T K X Y C F zz SO LE RO hi s0 im fr hd nw hh qs qz it th hm ow lo) H) (hD : va_D (fun q : Nat => s.heap.size ≤ q) (wLaw k dd aa ab ac ah ca ga ta tb tc td nb nv no nd gm P T K X Y C F zz SO LE RO hi s0 im fr hd nw hh qs qz it th hm ow lo)) (hS : va_S (fun q : Nat => s.heap.size ≤ q) s.heap H locs) {ls : Array Slot} (hl : lv_has ls 4 [(0, .ref b), (1, .ref (dd 0)), (2, .ref (gm 0)), (3, .int x3)]) (kk : LKK p l e s m below meth c b D k dd aa ab ac ah ca ga ta tb tc td nb nv no nd gm n x3) : W p l e room_1 s m #[Value.ref b] below meth c H locs 61 4399 (lw_Z below #[Value.ref b] s) (F0 m 676 ls []) := by
  obtain ⟨hx, hb, hr, hml, hown, hts, hX, hbl, hlocks, hgv⟩ := C0
  have hown : s.vm.findClass RL = some m.cls := hown
  have htsL : ∀ w ∈ wsL_law, w.before #[Value.ref b] s = true := fun w h => hts w (wsL_law_in w h)
  have hA : ∀ q : Nat, s.heap.size ≤ q → (fun q : Nat => s.heap.size ≤ q) q := fun _ h => h
  have hbA : ¬ (fun q : Nat => s.heap.size ≤ q) b := Nat.not_le.mpr hbl
  obtain ⟨r, e7, e8, hI'⟩ := lc_space hn P T K X Y C F zz SO LE RO hi s0 im fr hd nw hh qs qz it th hm ow lo hI (xs (Int32.toNatClampNeg (x3 + 1)))
  refine lv_aload_n hx hb dL_law_676 rfl (lv_at hl 1 rfl) ?_
  refine lv_aload_n hx hb dL_law_677 rfl (lv_at hl 0 rfl) ?_
  refine lv_iload_n hx hb dL_law_678 rfl (lv_at hl 3 rfl) ?_
  refine lv_iconst (v := 1) hx hb dL_law_679 (by decide) ?_
  refine lv_iadd hx hb dL_law_680 ?_
  refine va_sld hx hb hX hbl hbA hS h1 dL_law_681 ?_
  refine cVlr (As := [.int (xs (Int32.toNatClampNeg (x3 + 1)))]) (rest := []) ⟨hx, hb, hml, hown, htsL⟩ hK hA hP hD hS (mX7_space l D k dd aa ab ac ah ca ga ta tb tc td nb nv no nd (P := P) (T := T) (K := K) (X := X) (Y := Y) (C := C) (F := F) (z := zz) (SO := SO) (LE := LE) (RO := RO) (hi := hi) e7) (cwV 1 htsL gL_law_X7_space rfl rfl rfl kX7_space ⟨(Nat.le_of_ble_eq_true rfl), (Nat.le_of_ble_eq_true rfl)⟩) [0, 1, 2, 3, 4, 5, 6, 7, 8, 9, 10, 11, 12, 13, 14, 15, 16, 17, 18, 19, 20, 21, 22, 23, 24, 25, 26, 27, 28, 29, 30, 31, 32, 33, 34, 35, 36, 37, 38, 39, 40, 41, 42, 43, 44, 45, 46, 47, 48, 49, 50] rfl rfl 0 rfl rfl rfl hl.1 rfl (Nat.le_of_ble_eq_true rfl) ⟨(Nat.le_of_ble_eq_true rfl), (Nat.le_of_ble_eq_true rfl)⟩ dL_law_682 (fun H locs hP hD hS => ?_)
  refine lv_aload_n hx hb dL_law_685 rfl (lv_at hl 2 rfl) ?_
  refine lv_aload_n hx hb dL_law_686 rfl (lv_at hl 0 rfl) ?_
  refine lv_iload_n hx hb dL_law_687 rfl (lv_at hl 3 rfl) ?_
  refine lv_iconst (v := 1) hx hb dL_law_688 (by decide) ?_
  refine lv_iadd hx hb dL_law_689 ?_
  refine va_sld hx hb hX hbl hbA hS h1 dL_law_690 ?_
  refine cVlr (As := [.int (xs (Int32.toNatClampNeg (x3 + 1)))]) (rest := [.long r]) ⟨hx, hb, hml, hown, htsL⟩ hK hA hP hD hS (mX8_space l D k gm (s := s0) (im := im) (fr := fr) (hd := hd) (nw := nw) (hh := hh) (qs := qs) (qz := qz) (it := it) (th := th) (hm := hm) (ow := ow) (lo := lo) e8) (cwV 1 htsL gL_law_X8_space rfl rfl rfl kX8_space ⟨(Nat.le_of_ble_eq_true rfl), (Nat.le_of_ble_eq_true rfl)⟩) [51, 52, 53, 54, 55, 56, 57, 58, 59, 60] rfl rfl 0 rfl rfl rfl hl.1 rfl (Nat.le_of_ble_eq_true rfl) ⟨(Nat.le_of_ble_eq_true rfl), (Nat.le_of_ble_eq_true rfl)⟩ dL_law_691 (fun H locs hP hD hS => ?_)
  refine W.lcmp hx hb dL_law_694 ?_
  refine lv_if_eq (tgt := 1295) hx hb dL_law_695 (by decide) (fun _ => ?_) (fun c1 => absurd ((lg_cmp_eq r r).mpr rfl) c1)
  exact kk P T K X Y C F zz SO LE RO hi s0 im fr hd nw hh qs qz it th hm ow lo hI' H locs hP hD hS ls hl
