set_option maxRecDepth 100000 in
set_option maxHeartbeats 4000000 in
theorem law_expire {p : Program} {l : Launch} {e : Env} {s : State} {m : MethodId} {below : List Frame} {meth : Method} {c : Code} {b L : Nat} {xs : Nat → Int32} (C0 : lw_At p s m meth c b L xs) {D : va_G} {k : Nat → ClassId} (hK : va_K D vwCl (kTy k) s) {dd : Nat → Nat} {aa : Nat → Nat} {ab : Nat → Nat} {ac : Nat → Nat} {ah : Nat → Nat} {ca : Nat → Nat} {ga : Nat → Nat} {ta : Nat → Nat} {tb : Nat → Nat} {tc : Nat → Nat} {td : Nat → Nat} {nb : Nat} {nv : Nat} {no : Nat} {nd : Nat} {gm : Nat → Nat} {P : Nat → Nat → Int32} {T : Nat → Nat → Int32} {K : Nat → Nat → Int32} {X : Nat → Int32} {Y : Nat → Int32} {C : Nat → Int32} {F : Nat → Int64} {zz : Int32} {SO : Nat → Int32} {LE : Nat → Int32} {RO : Nat → Nat → Int64} {hi : Int32} {s0 : Nat → Int32} {im : Nat → Int32} {fr : Nat → Int32} {hd : Nat → Int32} {nw : Nat → Int32} {hh : Nat → Int32} {qs : Nat → Int32} {qz : Nat → Int32} {it : Nat → Int64} {th : Int32} {hm : Int32} {ow : Int32} {lo : Int32} {n : Nat} (hn : n ≤ 600) (hI : LI n P K hi SO LE RO s0 im hm qs qz it) {x3 : Int32} (h1 : vp_in (x3 + 1) L) (h2 : vp_in (x3 + 2) L) (h3 : vp_in (x3 + 3) L) (h4 : vp_in (x3 + 4) L) {H : Heap} {locs : List Loc} (hP : va_P D vwCl (wLaw k dd aa ab ac ah ca ga ta tb tc td nb nv no nd gm P T K X Y C F zz SO LE RO hi s0 im fr hd nw hh qs qz it th hm ow lo) H) (hD : va_D (fun q : Nat => s.heap.size ≤ q) (wLaw k dd aa ab ac ah ca ga ta tb tc td nb nv no nd gm P T K X Y C F zz SO LE RO hi s0 im fr hd nw hh qs qz it th hm ow lo)) (hS : va_S (fun q : Nat => s.heap.size ≤ q) s.heap H locs) {ls : Array Slot} (hl : lv_has ls 4 [(0, .ref b), (1, .ref (dd 0)), (2, .ref (gm 0)), (3, .int x3)]) (kk : LKK p l e s m below meth c b D k dd aa ab ac ah ca ga ta tb tc td nb nv no nd gm n x3) : W p l e room_1 s m #[Value.ref b] below meth c H locs 61 4399 (lw_Z below #[Value.ref b] s) (F0 m 923 ls []) := by
  obtain ⟨hx, hb, hr, hml, hown, hts, hX, hbl, hlocks, hgv⟩ := C0
  have hown : s.vm.findClass RL = some m.cls := hown
  have htsL : ∀ w ∈ wsL_law, w.before #[Value.ref b] s = true := fun w h => hts w (wsL_law_in w h)
  have hA : ∀ q : Nat, s.heap.size ≤ q → (fun q : Nat => s.heap.size ≤ q) q := fun _ h => h
  have hbA : ¬ (fun q : Nat => s.heap.size ≤ q) b := Nat.not_le.mpr hbl
  obtain ⟨r, P', s0', hd', nw', ow', e7, e8, hI'⟩ := lc_expire hn P T K X Y C F zz SO LE RO hi s0 im fr hd nw hh qs qz it th hm ow lo hI (xs (Int32.toNatClampNeg (x3 + 1))) (xs (Int32.toNatClampNeg (x3 + 2))) (xs (Int32.toNatClampNeg (x3 + 3)))
  refine lv_aload_n hx hb dL_law_923 rfl (lv_at hl 1 rfl) ?_
  refine lv_aload_n hx hb dL_law_924 rfl (lv_at hl 0 rfl) ?_
  refine lv_iload_n hx hb dL_law_925 rfl (lv_at hl 3 rfl) ?_
  refine lv_iconst (v := 1) hx hb dL_law_926 (by decide) ?_
  refine lv_iadd hx hb dL_law_927 ?_
  refine va_sld hx hb hX hbl hbA hS h1 dL_law_928 ?_
  refine lv_aload_n hx hb dL_law_929 rfl (lv_at hl 0 rfl) ?_
  refine lv_iload_n hx hb dL_law_930 rfl (lv_at hl 3 rfl) ?_
  refine lv_iconst (v := 2) hx hb dL_law_931 (by decide) ?_
  refine lv_iadd hx hb dL_law_932 ?_
  refine va_sld hx hb hX hbl hbA hS h2 dL_law_933 ?_
  refine lv_aload_n hx hb dL_law_934 rfl (lv_at hl 0 rfl) ?_
  refine lv_iload_n hx hb dL_law_935 rfl (lv_at hl 3 rfl) ?_
  refine lv_iconst (v := 3) hx hb dL_law_936 (by decide) ?_
  refine lv_iadd hx hb dL_law_937 ?_
  refine va_sld hx hb hX hbl hbA hS h3 dL_law_938 ?_
  refine cVi (wf := (wLaw k dd aa ab ac ah ca ga ta tb tc td nb nv no nd gm P' T K X Y C F zz SO LE RO hi s0 im fr hd nw hh qs qz it th hm ow lo)) (As := [.int (xs (Int32.toNatClampNeg (x3 + 1))), .int (xs (Int32.toNatClampNeg (x3 + 2))), .int (xs (Int32.toNatClampNeg (x3 + 3)))]) (rest := []) ⟨hx, hb, hml, hown, htsL⟩ hK hA hP hD hS (mX7_expire l D k dd aa ab ac ah ca ga ta tb tc td nb nv no nd (P_0 := P) (T := T) (K := K) (X := X) (Y := Y) (C := C) (F := F) (z := zz) (SO := SO) (LE := LE) (RO := RO) (hi := hi) e7) (cwV 3 htsL gL_law_X7_expire rfl rfl rfl kX7_expire ⟨(Nat.le_of_ble_eq_true rfl), (Nat.le_of_ble_eq_true rfl)⟩) [0, 1, 2, 3, 4, 5, 6, 7, 8, 9, 10, 11, 12, 13, 14, 15, 16, 17, 18, 19, 20, 21, 22, 23, 24, 25, 26, 27, 28, 29, 30, 31, 32, 33, 34, 35, 36, 37, 38, 39, 40, 41, 42, 43, 44, 45, 46, 47, 48, 49, 50] rfl rfl rfl [false, false, false, false, false, false, false, false, false, false, false, false, false, false, false, false, false, false, false, false, false, false, false, false, false, false, false, false, false, false, false, false, false, false, false, false, false, false, false, false, false, false, false, false, false, false, false, false, false, false, false, true, true, true, true, true, true, true, true, true, true] ⟨rfl, rfl, rfl, rfl, rfl, rfl, rfl, rfl, rfl, rfl, trivial⟩ 61 rfl (by decide +kernel) rfl 0 rfl rfl rfl hl.1 rfl (Nat.le_of_ble_eq_true rfl) ⟨(Nat.le_of_ble_eq_true rfl), (Nat.le_of_ble_eq_true rfl)⟩ dL_law_939 (fun H locs hP hD hS => ?_)
  refine lv_aload_n hx hb dL_law_942 rfl (lv_at hl 2 rfl) ?_
  refine lv_aload_n hx hb dL_law_943 rfl (lv_at hl 0 rfl) ?_
  refine lv_iload_n hx hb dL_law_944 rfl (lv_at hl 3 rfl) ?_
  refine lv_iconst (v := 1) hx hb dL_law_945 (by decide) ?_
  refine lv_iadd hx hb dL_law_946 ?_
  refine va_sld hx hb hX hbl hbA hS h1 dL_law_947 ?_
  refine lv_aload_n hx hb dL_law_948 rfl (lv_at hl 0 rfl) ?_
  refine lv_iload_n hx hb dL_law_949 rfl (lv_at hl 3 rfl) ?_
  refine lv_iconst (v := 2) hx hb dL_law_950 (by decide) ?_
  refine lv_iadd hx hb dL_law_951 ?_
  refine va_sld hx hb hX hbl hbA hS h2 dL_law_952 ?_
  refine lv_aload_n hx hb dL_law_953 rfl (lv_at hl 0 rfl) ?_
  refine lv_iload_n hx hb dL_law_954 rfl (lv_at hl 3 rfl) ?_
  refine lv_iconst (v := 3) hx hb dL_law_955 (by decide) ?_
  refine lv_iadd hx hb dL_law_956 ?_
  refine va_sld hx hb hX hbl hbA hS h3 dL_law_957 ?_
  refine cVi (wf := (wLaw k dd aa ab ac ah ca ga ta tb tc td nb nv no nd gm P' T K X Y C F zz SO LE RO hi s0' im fr hd' nw' hh qs qz it th hm ow' lo)) (As := [.int (xs (Int32.toNatClampNeg (x3 + 1))), .int (xs (Int32.toNatClampNeg (x3 + 2))), .int (xs (Int32.toNatClampNeg (x3 + 3)))]) (rest := [.int r]) ⟨hx, hb, hml, hown, htsL⟩ hK hA hP hD hS (mX8_expire l D k gm (s_0 := s0) (im := im) (fr := fr) (hd_0 := hd) (nw_0 := nw) (hh := hh) (qs := qs) (qz := qz) (it := it) (th := th) (hm := hm) (ow_0 := ow) (lo := lo) e8) (cwV 3 htsL gL_law_X8_expire rfl rfl rfl kX8_expire ⟨(Nat.le_of_ble_eq_true rfl), (Nat.le_of_ble_eq_true rfl)⟩) [51, 52, 53, 54, 55, 56, 57, 58, 59, 60] rfl rfl rfl [true, true, true, true, true, true, true, true, true, true, true, true, true, true, true, true, true, true, true, true, true, true, true, true, true, true, true, true, true, true, true, true, true, true, true, true, true, true, true, true, true, true, true, true, true, true, true, true, true, true, true, false, false, false, false, false, false, false, false, false, false] ⟨rfl, rfl, rfl, rfl, rfl, rfl, rfl, rfl, rfl, rfl, rfl, rfl, rfl, rfl, rfl, rfl, rfl, rfl, rfl, rfl, rfl, rfl, rfl, rfl, rfl, rfl, rfl, rfl, rfl, rfl, rfl, rfl, rfl, rfl, rfl, rfl, rfl, rfl, rfl, rfl, rfl, rfl, rfl, rfl, rfl, rfl, rfl, rfl, rfl, rfl, rfl, trivial⟩ 61 rfl (by decide +kernel) rfl 0 rfl rfl rfl hl.1 rfl (Nat.le_of_ble_eq_true rfl) ⟨(Nat.le_of_ble_eq_true rfl), (Nat.le_of_ble_eq_true rfl)⟩ dL_law_958 (fun H locs hP hD hS => ?_)
  refine lv_icmp_eq (tgt := 1295) hx hb dL_law_961 (by decide) (fun _ => ?_) (fun c1 => absurd rfl c1)
  exact kk P' T K X Y C F zz SO LE RO hi s0' im fr hd' nw' hh qs qz it th hm ow' lo hI' H locs hP hD hS ls hl
set_option maxRecDepth 100000 in
set_option maxHeartbeats 4000000 in
theorem law_sheet {p : Program} {l : Launch} {e : Env} {s : State} {m : MethodId} {below : List Frame} {meth : Method} {c : Code} {b L : Nat} {xs : Nat → Int32} (C0 : lw_At p s m meth c b L xs) {D : va_G} {k : Nat → ClassId} (hK : va_K D vwCl (kTy k) s) {dd : Nat → Nat} {aa : Nat → Nat} {ab : Nat → Nat} {ac : Nat → Nat} {ah : Nat → Nat} {ca : Nat → Nat} {ga : Nat → Nat} {ta : Nat → Nat} {tb : Nat → Nat} {tc : Nat → Nat} {td : Nat → Nat} {nb : Nat} {nv : Nat} {no : Nat} {nd : Nat} {gm : Nat → Nat} {P : Nat → Nat → Int32} {T : Nat → Nat → Int32} {K : Nat → Nat → Int32} {X : Nat → Int32} {Y : Nat → Int32} {C : Nat → Int32} {F : Nat → Int64} {zz : Int32} {SO : Nat → Int32} {LE : Nat → Int32} {RO : Nat → Nat → Int64} {hi : Int32} {s0 : Nat → Int32} {im : Nat → Int32} {fr : Nat → Int32} {hd : Nat → Int32} {nw : Nat → Int32} {hh : Nat → Int32} {qs : Nat → Int32} {qz : Nat → Int32} {it : Nat → Int64} {th : Int32} {hm : Int32} {ow : Int32} {lo : Int32} {n : Nat} (hn : n ≤ 600) (hI : LI n P K hi SO LE RO s0 im hm qs qz it) {x3 : Int32} (h1 : vp_in (x3 + 1) L) (h2 : vp_in (x3 + 2) L) (h3 : vp_in (x3 + 3) L) (h4 : vp_in (x3 + 4) L) {H : Heap} {locs : List Loc} (hP : va_P D vwCl (wLaw k dd aa ab ac ah ca ga ta tb tc td nb nv no nd gm P T K X Y C F zz SO LE RO hi s0 im fr hd nw hh qs qz it th hm ow lo) H) (hD : va_D (fun q : Nat => s.heap.size ≤ q) (wLaw k dd aa ab ac ah ca ga ta tb tc td nb nv no nd gm P T K X Y C F zz SO LE RO hi s0 im fr hd nw hh qs qz it th hm ow lo)) (hS : va_S (fun q : Nat => s.heap.size ≤ q) s.heap H locs) {ls : Array Slot} (hl : lv_has ls 4 [(0, .ref b), (1, .ref (dd 0)), (2, .ref (gm 0)), (3, .int x3)]) (kk : LKK p l e s m below meth c b D k dd aa ab ac ah ca ga ta tb tc td nb nv no nd gm n x3) : W p l e room_1 s m #[Value.ref b] below meth c H locs 61 4399 (lw_Z below #[Value.ref b] s) (F0 m 966 ls []) := by
  obtain ⟨hx, hb, hr, hml, hown, hts, hX, hbl, hlocks, hgv⟩ := C0
  have hown : s.vm.findClass RL = some m.cls := hown
  have htsL : ∀ w ∈ wsL_law, w.before #[Value.ref b] s = true := fun w h => hts w (wsL_law_in w h)
  have hA : ∀ q : Nat, s.heap.size ≤ q → (fun q : Nat => s.heap.size ≤ q) q := fun _ h => h
  have hbA : ¬ (fun q : Nat => s.heap.size ≤ q) b := Nat.not_le.mpr hbl
  obtain ⟨r, SO', LE', RO', qs', qz', it', e7, e8, hI'⟩ := lc_sheet hn P T K X Y C F zz SO LE RO hi s0 im fr hd nw hh qs qz it th hm ow lo hI (xs (Int32.toNatClampNeg (x3 + 1))) (xs (Int32.toNatClampNeg (x3 + 2))) (xs (Int32.toNatClampNeg (x3 + 3)))
  refine lv_aload_n hx hb dL_law_966 rfl (lv_at hl 1 rfl) ?_
  refine lv_aload_n hx hb dL_law_967 rfl (lv_at hl 0 rfl) ?_
  refine lv_iload_n hx hb dL_law_968 rfl (lv_at hl 3 rfl) ?_
  refine lv_iconst (v := 1) hx hb dL_law_969 (by decide) ?_
  refine lv_iadd hx hb dL_law_970 ?_
  refine va_sld hx hb hX hbl hbA hS h1 dL_law_971 ?_
  refine lv_aload_n hx hb dL_law_972 rfl (lv_at hl 0 rfl) ?_
  refine lv_iload_n hx hb dL_law_973 rfl (lv_at hl 3 rfl) ?_
  refine lv_iconst (v := 2) hx hb dL_law_974 (by decide) ?_
  refine lv_iadd hx hb dL_law_975 ?_
  refine va_sld hx hb hX hbl hbA hS h2 dL_law_976 ?_
  refine lv_aload_n hx hb dL_law_977 rfl (lv_at hl 0 rfl) ?_
  refine lv_iload_n hx hb dL_law_978 rfl (lv_at hl 3 rfl) ?_
  refine lv_iconst (v := 3) hx hb dL_law_979 (by decide) ?_
  refine lv_iadd hx hb dL_law_980 ?_
  refine va_sld hx hb hX hbl hbA hS h3 dL_law_981 ?_
  refine cVi (wf := (wLaw k dd aa ab ac ah ca ga ta tb tc td nb nv no nd gm P T K X Y C F zz SO' LE' RO' hi s0 im fr hd nw hh qs qz it th hm ow lo)) (As := [.int (xs (Int32.toNatClampNeg (x3 + 1))), .int (xs (Int32.toNatClampNeg (x3 + 2))), .int (xs (Int32.toNatClampNeg (x3 + 3)))]) (rest := []) ⟨hx, hb, hml, hown, htsL⟩ hK hA hP hD hS (mX7_sheet l D k dd aa ab ac ah ca ga ta tb tc td nb nv no nd (P := P) (T := T) (K := K) (X := X) (Y := Y) (C := C) (F := F) (z := zz) (SO_0 := SO) (LE_0 := LE) (RO_0 := RO) (hi := hi) e7) (cwV 3 htsL gL_law_X7_sheet rfl rfl rfl kX7_sheet ⟨(Nat.le_of_ble_eq_true rfl), (Nat.le_of_ble_eq_true rfl)⟩) [0, 1, 2, 3, 4, 5, 6, 7, 8, 9, 10, 11, 12, 13, 14, 15, 16, 17, 18, 19, 20, 21, 22, 23, 24, 25, 26, 27, 28, 29, 30, 31, 32, 33, 34, 35, 36, 37, 38, 39, 40, 41, 42, 43, 44, 45, 46, 47, 48, 49, 50] rfl rfl rfl [false, false, false, false, false, false, false, false, false, false, false, false, false, false, false, false, false, false, false, false, false, false, false, false, false, false, false, false, false, false, false, false, false, false, false, false, false, false, false, false, false, false, false, false, false, false, false, false, false, false, false, true, true, true, true, true, true, true, true, true, true] ⟨rfl, rfl, rfl, rfl, rfl, rfl, rfl, rfl, rfl, rfl, trivial⟩ 61 rfl (by decide +kernel) rfl 0 rfl rfl rfl hl.1 rfl (Nat.le_of_ble_eq_true rfl) ⟨(Nat.le_of_ble_eq_true rfl), (Nat.le_of_ble_eq_true rfl)⟩ dL_law_982 (fun H locs hP hD hS => ?_)
  refine lv_aload_n hx hb dL_law_985 rfl (lv_at hl 2 rfl) ?_
  refine lv_aload_n hx hb dL_law_986 rfl (lv_at hl 0 rfl) ?_
  refine lv_iload_n hx hb dL_law_987 rfl (lv_at hl 3 rfl) ?_
  refine lv_iconst (v := 1) hx hb dL_law_988 (by decide) ?_
  refine lv_iadd hx hb dL_law_989 ?_
  refine va_sld hx hb hX hbl hbA hS h1 dL_law_990 ?_
  refine lv_aload_n hx hb dL_law_991 rfl (lv_at hl 0 rfl) ?_
  refine lv_iload_n hx hb dL_law_992 rfl (lv_at hl 3 rfl) ?_
  refine lv_iconst (v := 2) hx hb dL_law_993 (by decide) ?_
  refine lv_iadd hx hb dL_law_994 ?_
  refine va_sld hx hb hX hbl hbA hS h2 dL_law_995 ?_
  refine lv_aload_n hx hb dL_law_996 rfl (lv_at hl 0 rfl) ?_
  refine lv_iload_n hx hb dL_law_997 rfl (lv_at hl 3 rfl) ?_
  refine lv_iconst (v := 3) hx hb dL_law_998 (by decide) ?_
  refine lv_iadd hx hb dL_law_999 ?_
  refine va_sld hx hb hX hbl hbA hS h3 dL_law_1000 ?_
  refine cVi (wf := (wLaw k dd aa ab ac ah ca ga ta tb tc td nb nv no nd gm P T K X Y C F zz SO' LE' RO' hi s0 im fr hd nw hh qs' qz' it' th hm ow lo)) (As := [.int (xs (Int32.toNatClampNeg (x3 + 1))), .int (xs (Int32.toNatClampNeg (x3 + 2))), .int (xs (Int32.toNatClampNeg (x3 + 3)))]) (rest := [.int r]) ⟨hx, hb, hml, hown, htsL⟩ hK hA hP hD hS (mX8_sheet l D k gm (s := s0) (im := im) (fr := fr) (hd := hd) (nw := nw) (hh := hh) (qs_0 := qs) (qz_0 := qz) (it_0 := it) (th := th) (hm := hm) (ow := ow) (lo := lo) e8) (cwV 3 htsL gL_law_X8_sheet rfl rfl rfl kX8_sheet ⟨(Nat.le_of_ble_eq_true rfl), (Nat.le_of_ble_eq_true rfl)⟩) [51, 52, 53, 54, 55, 56, 57, 58, 59, 60] rfl rfl rfl [true, true, true, true, true, true, true, true, true, true, true, true, true, true, true, true, true, true, true, true, true, true, true, true, true, true, true, true, true, true, true, true, true, true, true, true, true, true, true, true, true, true, true, true, true, true, true, true, true, true, true, false, false, false, false, false, false, false, false, false, false] ⟨rfl, rfl, rfl, rfl, rfl, rfl, rfl, rfl, rfl, rfl, rfl, rfl, rfl, rfl, rfl, rfl, rfl, rfl, rfl, rfl, rfl, rfl, rfl, rfl, rfl, rfl, rfl, rfl, rfl, rfl, rfl, rfl, rfl, rfl, rfl, rfl, rfl, rfl, rfl, rfl, rfl, rfl, rfl, rfl, rfl, rfl, rfl, rfl, rfl, rfl, rfl, trivial⟩ 61 rfl (by decide +kernel) rfl 0 rfl rfl rfl hl.1 rfl (Nat.le_of_ble_eq_true rfl) ⟨(Nat.le_of_ble_eq_true rfl), (Nat.le_of_ble_eq_true rfl)⟩ dL_law_1001 (fun H locs hP hD hS => ?_)
  refine lv_icmp_eq (tgt := 1295) hx hb dL_law_1004 (by decide) (fun _ => ?_) (fun c1 => absurd rfl c1)
  exact kk P T K X Y C F zz SO' LE' RO' hi s0 im fr hd nw hh qs' qz' it' th hm ow lo hI' H locs hP hD hS ls hl
set_option maxRecDepth 100000 in
set_option maxHeartbeats 4000000 in
theorem law_cell {p : Program} {l : Launch} {e : Env} {s : State} {m : MethodId} {below : List Frame} {meth : Method} {c : Code} {b L : Nat} {xs : Nat → Int32} (C0 : lw_At p s m meth c b L xs) {D : va_G} {k : Nat → ClassId} (hK : va_K D vwCl (kTy k) s) {dd : Nat → Nat} {aa : Nat → Nat} {ab : Nat → Nat} {ac : Nat → Nat} {ah : Nat → Nat} {ca : Nat → Nat} {ga : Nat → Nat} {ta : Nat → Nat} {tb : Nat → Nat} {tc : Nat → Nat} {td : Nat → Nat} {nb : Nat} {nv : Nat} {no : Nat} {nd : Nat} {gm : Nat → Nat} {P : Nat → Nat → Int32} {T : Nat → Nat → Int32} {K : Nat → Nat → Int32} {X : Nat → Int32} {Y : Nat → Int32} {C : Nat → Int32} {F : Nat → Int64} {zz : Int32} {SO : Nat → Int32} {LE : Nat → Int32} {RO : Nat → Nat → Int64} {hi : Int32} {s0 : Nat → Int32} {im : Nat → Int32} {fr : Nat → Int32} {hd : Nat → Int32} {nw : Nat → Int32} {hh : Nat → Int32} {qs : Nat → Int32} {qz : Nat → Int32} {it : Nat → Int64} {th : Int32} {hm : Int32} {ow : Int32} {lo : Int32} {n : Nat} (hn : n ≤ 600) (hI : LI n P K hi SO LE RO s0 im hm qs qz it) {x3 : Int32} (h1 : vp_in (x3 + 1) L) (h2 : vp_in (x3 + 2) L) (h3 : vp_in (x3 + 3) L) (h4 : vp_in (x3 + 4) L) {H : Heap} {locs : List Loc} (hP : va_P D vwCl (wLaw k dd aa ab ac ah ca ga ta tb tc td nb nv no nd gm P T K X Y C F zz SO LE RO hi s0 im fr hd nw hh qs qz it th hm ow lo) H) (hD : va_D (fun q : Nat => s.heap.size ≤ q) (wLaw k dd aa ab ac ah ca ga ta tb tc td nb nv no nd gm P T K X Y C F zz SO LE RO hi s0 im fr hd nw hh qs qz it th hm ow lo)) (hS : va_S (fun q : Nat => s.heap.size ≤ q) s.heap H locs) {ls : Array Slot} (hl : lv_has ls 4 [(0, .ref b), (1, .ref (dd 0)), (2, .ref (gm 0)), (3, .int x3)]) (kk : LKK p l e s m below meth c b D k dd aa ab ac ah ca ga ta tb tc td nb nv no nd gm n x3) : W p l e room_1 s m #[Value.ref b] below meth c H locs 61 4399 (lw_Z below #[Value.ref b] s) (F0 m 1009 ls []) := by
  obtain ⟨hx, hb, hr, hml, hown, hts, hX, hbl, hlocks, hgv⟩ := C0
  have hown : s.vm.findClass RL = some m.cls := hown
  have htsL : ∀ w ∈ wsL_law, w.before #[Value.ref b] s = true := fun w h => hts w (wsL_law_in w h)
  have hA : ∀ q : Nat, s.heap.size ≤ q → (fun q : Nat => s.heap.size ≤ q) q := fun _ h => h
  have hbA : ¬ (fun q : Nat => s.heap.size ≤ q) b := Nat.not_le.mpr hbl
  obtain ⟨r, RO', it', e7, e8, hI'⟩ := lc_cell hn P T K X Y C F zz SO LE RO hi s0 im fr hd nw hh qs qz it th hm ow lo hI (xs (Int32.toNatClampNeg (x3 + 1))) (xs (Int32.toNatClampNeg (x3 + 2))) (((Int32.toInt64 (xs (Int32.toNatClampNeg (x3 + 3)))) <<< (Int32.toInt64 32 &&& 63)) ||| ((Int32.toInt64 (xs (Int32.toNatClampNeg (x3 + 4)))) &&& 4294967295))
  refine lv_aload_n hx hb dL_law_1009 rfl (lv_at hl 1 rfl) ?_
  refine lv_aload_n hx hb dL_law_1010 rfl (lv_at hl 0 rfl) ?_
  refine lv_iload_n hx hb dL_law_1011 rfl (lv_at hl 3 rfl) ?_
  refine lv_iconst (v := 1) hx hb dL_law_1012 (by decide) ?_
  refine lv_iadd hx hb dL_law_1013 ?_
  refine va_sld hx hb hX hbl hbA hS h1 dL_law_1014 ?_
  refine lv_aload_n hx hb dL_law_1015 rfl (lv_at hl 0 rfl) ?_
  refine lv_iload_n hx hb dL_law_1016 rfl (lv_at hl 3 rfl) ?_
  refine lv_iconst (v := 2) hx hb dL_law_1017 (by decide) ?_
  refine lv_iadd hx hb dL_law_1018 ?_
  refine va_sld hx hb hX hbl hbA hS h2 dL_law_1019 ?_
  refine lv_aload_n hx hb dL_law_1020 rfl (lv_at hl 0 rfl) ?_
  refine lv_iload_n hx hb dL_law_1021 rfl (lv_at hl 3 rfl) ?_
  refine lv_iconst (v := 3) hx hb dL_law_1022 (by decide) ?_
  refine lv_iadd hx hb dL_law_1023 ?_
  refine va_sld hx hb hX hbl hbA hS h3 dL_law_1024 ?_
  refine lv_i2l (v := (Int32.toInt64 (xs (Int32.toNatClampNeg (x3 + 3))))) hx hb dL_law_1025 rfl ?_
  refine lv_bipush (v := 32) hx hb dL_law_1026 (by decide) ?_
  refine lv_lshl (v := ((Int32.toInt64 (xs (Int32.toNatClampNeg (x3 + 3)))) <<< (Int32.toInt64 32 &&& 63))) hx hb dL_law_1028 rfl ?_
  refine lv_aload_n hx hb dL_law_1029 rfl (lv_at hl 0 rfl) ?_
  refine lv_iload_n hx hb dL_law_1030 rfl (lv_at hl 3 rfl) ?_
  refine lv_iconst (v := 4) hx hb dL_law_1031 (by decide) ?_
  refine lv_iadd hx hb dL_law_1032 ?_
  refine va_sld hx hb hX hbl hbA hS h4 dL_law_1033 ?_
  refine lv_i2l (v := (Int32.toInt64 (xs (Int32.toNatClampNeg (x3 + 4))))) hx hb dL_law_1034 rfl ?_
  refine lv_ldc2 hx hb hown (htsL (.constantLong RL 111 (4294967295)) (List.mem_of_getElem? (i := 6) rfl)) dL_law_1035 ?_
  refine lv_land hx hb dL_law_1038 ?_
  refine lv_lor hx hb dL_law_1039 ?_
  refine cVi (wf := (wLaw k dd aa ab ac ah ca ga ta tb tc td nb nv no nd gm P T K X Y C F zz SO LE RO' hi s0 im fr hd nw hh qs qz it th hm ow lo)) (As := [.int (xs (Int32.toNatClampNeg (x3 + 1))), .int (xs (Int32.toNatClampNeg (x3 + 2))), .long (((Int32.toInt64 (xs (Int32.toNatClampNeg (x3 + 3)))) <<< (Int32.toInt64 32 &&& 63)) ||| ((Int32.toInt64 (xs (Int32.toNatClampNeg (x3 + 4)))) &&& 4294967295))]) (rest := []) ⟨hx, hb, hml, hown, htsL⟩ hK hA hP hD hS (mX7_cell l D k dd aa ab ac ah ca ga ta tb tc td nb nv no nd (P := P) (T := T) (K := K) (X := X) (Y := Y) (C := C) (F := F) (z := zz) (SO := SO) (LE := LE) (RO_0 := RO) (hi := hi) e7) (cwV 3 htsL gL_law_X7_cell rfl rfl rfl kX7_cell ⟨(Nat.le_of_ble_eq_true rfl), (Nat.le_of_ble_eq_true rfl)⟩) [0, 1, 2, 3, 4, 5, 6, 7, 8, 9, 10, 11, 12, 13, 14, 15, 16, 17, 18, 19, 20, 21, 22, 23, 24, 25, 26, 27, 28, 29, 30, 31, 32, 33, 34, 35, 36, 37, 38, 39, 40, 41, 42, 43, 44, 45, 46, 47, 48, 49, 50] rfl rfl rfl [false, false, false, false, false, false, false, false, false, false, false, false, false, false, false, false, false, false, false, false, false, false, false, false, false, false, false, false, false, false, false, false, false, false, false, false, false, false, false, false, false, false, false, false, false, false, false, false, false, false, false, true, true, true, true, true, true, true, true, true, true] ⟨rfl, rfl, rfl, rfl, rfl, rfl, rfl, rfl, rfl, rfl, trivial⟩ 61 rfl (by decide +kernel) rfl 0 rfl rfl rfl hl.1 rfl (Nat.le_of_ble_eq_true rfl) ⟨(Nat.le_of_ble_eq_true rfl), (Nat.le_of_ble_eq_true rfl)⟩ dL_law_1040 (fun H locs hP hD hS => ?_)
  refine lv_aload_n hx hb dL_law_1043 rfl (lv_at hl 2 rfl) ?_
  refine lv_aload_n hx hb dL_law_1044 rfl (lv_at hl 0 rfl) ?_
  refine lv_iload_n hx hb dL_law_1045 rfl (lv_at hl 3 rfl) ?_
  refine lv_iconst (v := 1) hx hb dL_law_1046 (by decide) ?_
  refine lv_iadd hx hb dL_law_1047 ?_
  refine va_sld hx hb hX hbl hbA hS h1 dL_law_1048 ?_
  refine lv_aload_n hx hb dL_law_1049 rfl (lv_at hl 0 rfl) ?_
  refine lv_iload_n hx hb dL_law_1050 rfl (lv_at hl 3 rfl) ?_
  refine lv_iconst (v := 2) hx hb dL_law_1051 (by decide) ?_
  refine lv_iadd hx hb dL_law_1052 ?_
  refine va_sld hx hb hX hbl hbA hS h2 dL_law_1053 ?_
  refine lv_aload_n hx hb dL_law_1054 rfl (lv_at hl 0 rfl) ?_
  refine lv_iload_n hx hb dL_law_1055 rfl (lv_at hl 3 rfl) ?_
  refine lv_iconst (v := 3) hx hb dL_law_1056 (by decide) ?_
  refine lv_iadd hx hb dL_law_1057 ?_
  refine va_sld hx hb hX hbl hbA hS h3 dL_law_1058 ?_
  refine lv_i2l (v := (Int32.toInt64 (xs (Int32.toNatClampNeg (x3 + 3))))) hx hb dL_law_1059 rfl ?_
  refine lv_bipush (v := 32) hx hb dL_law_1060 (by decide) ?_
  refine lv_lshl (v := ((Int32.toInt64 (xs (Int32.toNatClampNeg (x3 + 3)))) <<< (Int32.toInt64 32 &&& 63))) hx hb dL_law_1062 rfl ?_
  refine lv_aload_n hx hb dL_law_1063 rfl (lv_at hl 0 rfl) ?_
  refine lv_iload_n hx hb dL_law_1064 rfl (lv_at hl 3 rfl) ?_
  refine lv_iconst (v := 4) hx hb dL_law_1065 (by decide) ?_
  refine lv_iadd hx hb dL_law_1066 ?_
  refine va_sld hx hb hX hbl hbA hS h4 dL_law_1067 ?_
  refine lv_i2l (v := (Int32.toInt64 (xs (Int32.toNatClampNeg (x3 + 4))))) hx hb dL_law_1068 rfl ?_
  refine lv_ldc2 hx hb hown (htsL (.constantLong RL 111 (4294967295)) (List.mem_of_getElem? (i := 6) rfl)) dL_law_1069 ?_
  refine lv_land hx hb dL_law_1072 ?_
  refine lv_lor hx hb dL_law_1073 ?_
  refine cVi (wf := (wLaw k dd aa ab ac ah ca ga ta tb tc td nb nv no nd gm P T K X Y C F zz SO LE RO' hi s0 im fr hd nw hh qs qz it' th hm ow lo)) (As := [.int (xs (Int32.toNatClampNeg (x3 + 1))), .int (xs (Int32.toNatClampNeg (x3 + 2))), .long (((Int32.toInt64 (xs (Int32.toNatClampNeg (x3 + 3)))) <<< (Int32.toInt64 32 &&& 63)) ||| ((Int32.toInt64 (xs (Int32.toNatClampNeg (x3 + 4)))) &&& 4294967295))]) (rest := [.int r]) ⟨hx, hb, hml, hown, htsL⟩ hK hA hP hD hS (mX8_cell l D k gm (s := s0) (im := im) (fr := fr) (hd := hd) (nw := nw) (hh := hh) (qs := qs) (qz := qz) (it_0 := it) (th := th) (hm := hm) (ow := ow) (lo := lo) e8) (cwV 3 htsL gL_law_X8_cell rfl rfl rfl kX8_cell ⟨(Nat.le_of_ble_eq_true rfl), (Nat.le_of_ble_eq_true rfl)⟩) [51, 52, 53, 54, 55, 56, 57, 58, 59, 60] rfl rfl rfl [true, true, true, true, true, true, true, true, true, true, true, true, true, true, true, true, true, true, true, true, true, true, true, true, true, true, true, true, true, true, true, true, true, true, true, true, true, true, true, true, true, true, true, true, true, true, true, true, true, true, true, false, false, false, false, false, false, false, false, false, false] ⟨rfl, rfl, rfl, rfl, rfl, rfl, rfl, rfl, rfl, rfl, rfl, rfl, rfl, rfl, rfl, rfl, rfl, rfl, rfl, rfl, rfl, rfl, rfl, rfl, rfl, rfl, rfl, rfl, rfl, rfl, rfl, rfl, rfl, rfl, rfl, rfl, rfl, rfl, rfl, rfl, rfl, rfl, rfl, rfl, rfl, rfl, rfl, rfl, rfl, rfl, rfl, trivial⟩ 61 rfl (by decide +kernel) rfl 0 rfl rfl rfl hl.1 rfl (Nat.le_of_ble_eq_true rfl) ⟨(Nat.le_of_ble_eq_true rfl), (Nat.le_of_ble_eq_true rfl)⟩ dL_law_1074 (fun H locs hP hD hS => ?_)
  refine lv_icmp_eq (tgt := 1295) hx hb dL_law_1077 (by decide) (fun _ => ?_) (fun c1 => absurd rfl c1)
  exact kk P T K X Y C F zz SO LE RO' hi s0 im fr hd nw hh qs qz it' th hm ow lo hI' H locs hP hD hS ls hl
set_option maxRecDepth 100000 in
set_option maxHeartbeats 4000000 in
theorem law_item {p : Program} {l : Launch} {e : Env} {s : State} {m : MethodId} {below : List Frame} {meth : Method} {c : Code} {b L : Nat} {xs : Nat → Int32} (C0 : lw_At p s m meth c b L xs) {D : va_G} {k : Nat → ClassId} (hK : va_K D vwCl (kTy k) s) {dd : Nat → Nat} {aa : Nat → Nat} {ab : Nat → Nat} {ac : Nat → Nat} {ah : Nat → Nat} {ca : Nat → Nat} {ga : Nat → Nat} {ta : Nat → Nat} {tb : Nat → Nat} {tc : Nat → Nat} {td : Nat → Nat} {nb : Nat} {nv : Nat} {no : Nat} {nd : Nat} {gm : Nat → Nat} {P : Nat → Nat → Int32} {T : Nat → Nat → Int32} {K : Nat → Nat → Int32} {X : Nat → Int32} {Y : Nat → Int32} {C : Nat → Int32} {F : Nat → Int64} {zz : Int32} {SO : Nat → Int32} {LE : Nat → Int32} {RO : Nat → Nat → Int64} {hi : Int32} {s0 : Nat → Int32} {im : Nat → Int32} {fr : Nat → Int32} {hd : Nat → Int32} {nw : Nat → Int32} {hh : Nat → Int32} {qs : Nat → Int32} {qz : Nat → Int32} {it : Nat → Int64} {th : Int32} {hm : Int32} {ow : Int32} {lo : Int32} {n : Nat} (hn : n ≤ 600) (hI : LI n P K hi SO LE RO s0 im hm qs qz it) {x3 : Int32} (h1 : vp_in (x3 + 1) L) (h2 : vp_in (x3 + 2) L) (h3 : vp_in (x3 + 3) L) (h4 : vp_in (x3 + 4) L) {H : Heap} {locs : List Loc} (hP : va_P D vwCl (wLaw k dd aa ab ac ah ca ga ta tb tc td nb nv no nd gm P T K X Y C F zz SO LE RO hi s0 im fr hd nw hh qs qz it th hm ow lo) H) (hD : va_D (fun q : Nat => s.heap.size ≤ q) (wLaw k dd aa ab ac ah ca ga ta tb tc td nb nv no nd gm P T K X Y C F zz SO LE RO hi s0 im fr hd nw hh qs qz it th hm ow lo)) (hS : va_S (fun q : Nat => s.heap.size ≤ q) s.heap H locs) {ls : Array Slot} (hl : lv_has ls 4 [(0, .ref b), (1, .ref (dd 0)), (2, .ref (gm 0)), (3, .int x3)]) (kk : LKK p l e s m below meth c b D k dd aa ab ac ah ca ga ta tb tc td nb nv no nd gm n x3) : W p l e room_1 s m #[Value.ref b] below meth c H locs 61 4399 (lw_Z below #[Value.ref b] s) (F0 m 1082 ls []) := by
  obtain ⟨hx, hb, hr, hml, hown, hts, hX, hbl, hlocks, hgv⟩ := C0
  have hown : s.vm.findClass RL = some m.cls := hown
  have htsL : ∀ w ∈ wsL_law, w.before #[Value.ref b] s = true := fun w h => hts w (wsL_law_in w h)
  have hA : ∀ q : Nat, s.heap.size ≤ q → (fun q : Nat => s.heap.size ≤ q) q := fun _ h => h
  have hbA : ¬ (fun q : Nat => s.heap.size ≤ q) b := Nat.not_le.mpr hbl
  obtain ⟨r, e7, e8, hI'⟩ := lc_item hn P T K X Y C F zz SO LE RO hi s0 im fr hd nw hh qs qz it th hm ow lo hI (xs (Int32.toNatClampNeg (x3 + 1))) (xs (Int32.toNatClampNeg (x3 + 2)))
  refine lv_aload_n hx hb dL_law_1082 rfl (lv_at hl 1 rfl) ?_
  refine lv_aload_n hx hb dL_law_1083 rfl (lv_at hl 0 rfl) ?_
  refine lv_iload_n hx hb dL_law_1084 rfl (lv_at hl 3 rfl) ?_
  refine lv_iconst (v := 1) hx hb dL_law_1085 (by decide) ?_
  refine lv_iadd hx hb dL_law_1086 ?_
  refine va_sld hx hb hX hbl hbA hS h1 dL_law_1087 ?_
  refine lv_aload_n hx hb dL_law_1088 rfl (lv_at hl 0 rfl) ?_
  refine lv_iload_n hx hb dL_law_1089 rfl (lv_at hl 3 rfl) ?_
  refine lv_iconst (v := 2) hx hb dL_law_1090 (by decide) ?_
  refine lv_iadd hx hb dL_law_1091 ?_
  refine va_sld hx hb hX hbl hbA hS h2 dL_law_1092 ?_
  refine cVlr (As := [.int (xs (Int32.toNatClampNeg (x3 + 1))), .int (xs (Int32.toNatClampNeg (x3 + 2)))]) (rest := []) ⟨hx, hb, hml, hown, htsL⟩ hK hA hP hD hS (mX7_item l D k dd aa ab ac ah ca ga ta tb tc td nb nv no nd (P := P) (T := T) (K := K) (X := X) (Y := Y) (C := C) (F := F) (z := zz) (SO := SO) (LE := LE) (RO := RO) (hi := hi) e7) (cwV 2 htsL gL_law_X7_item rfl rfl rfl kX7_item ⟨(Nat.le_of_ble_eq_true rfl), (Nat.le_of_ble_eq_true rfl)⟩) [0, 1, 2, 3, 4, 5, 6, 7, 8, 9, 10, 11, 12, 13, 14, 15, 16, 17, 18, 19, 20, 21, 22, 23, 24, 25, 26, 27, 28, 29, 30, 31, 32, 33, 34, 35, 36, 37, 38, 39, 40, 41, 42, 43, 44, 45, 46, 47, 48, 49, 50] rfl rfl 0 rfl rfl rfl hl.1 rfl (Nat.le_of_ble_eq_true rfl) ⟨(Nat.le_of_ble_eq_true rfl), (Nat.le_of_ble_eq_true rfl)⟩ dL_law_1093 (fun H locs hP hD hS => ?_)
  refine lv_aload_n hx hb dL_law_1096 rfl (lv_at hl 2 rfl) ?_
  refine lv_aload_n hx hb dL_law_1097 rfl (lv_at hl 0 rfl) ?_
  refine lv_iload_n hx hb dL_law_1098 rfl (lv_at hl 3 rfl) ?_
  refine lv_iconst (v := 1) hx hb dL_law_1099 (by decide) ?_
  refine lv_iadd hx hb dL_law_1100 ?_
  refine va_sld hx hb hX hbl hbA hS h1 dL_law_1101 ?_
  refine lv_aload_n hx hb dL_law_1102 rfl (lv_at hl 0 rfl) ?_
  refine lv_iload_n hx hb dL_law_1103 rfl (lv_at hl 3 rfl) ?_
  refine lv_iconst (v := 2) hx hb dL_law_1104 (by decide) ?_
  refine lv_iadd hx hb dL_law_1105 ?_
  refine va_sld hx hb hX hbl hbA hS h2 dL_law_1106 ?_
  refine cVlr (As := [.int (xs (Int32.toNatClampNeg (x3 + 1))), .int (xs (Int32.toNatClampNeg (x3 + 2)))]) (rest := [.long r]) ⟨hx, hb, hml, hown, htsL⟩ hK hA hP hD hS (mX8_item l D k gm (s := s0) (im := im) (fr := fr) (hd := hd) (nw := nw) (hh := hh) (qs := qs) (qz := qz) (it := it) (th := th) (hm := hm) (ow := ow) (lo := lo) e8) (cwV 2 htsL gL_law_X8_item rfl rfl rfl kX8_item ⟨(Nat.le_of_ble_eq_true rfl), (Nat.le_of_ble_eq_true rfl)⟩) [51, 52, 53, 54, 55, 56, 57, 58, 59, 60] rfl rfl 0 rfl rfl rfl hl.1 rfl (Nat.le_of_ble_eq_true rfl) ⟨(Nat.le_of_ble_eq_true rfl), (Nat.le_of_ble_eq_true rfl)⟩ dL_law_1107 (fun H locs hP hD hS => ?_)
  refine W.lcmp hx hb dL_law_1110 ?_
  refine lv_if_eq (tgt := 1295) hx hb dL_law_1111 (by decide) (fun _ => ?_) (fun c1 => absurd ((lg_cmp_eq r r).mpr rfl) c1)
  exact kk P T K X Y C F zz SO LE RO hi s0 im fr hd nw hh qs qz it th hm ow lo hI' H locs hP hD hS ls hl
set_option maxRecDepth 100000 in
set_option maxHeartbeats 4000000 in
theorem law_differ {p : Program} {l : Launch} {e : Env} {s : State} {m : MethodId} {below : List Frame} {meth : Method} {c : Code} {b L : Nat} {xs : Nat → Int32} (C0 : lw_At p s m meth c b L xs) {D : va_G} {k : Nat → ClassId} (hK : va_K D vwCl (kTy k) s) {dd : Nat → Nat} {aa : Nat → Nat} {ab : Nat → Nat} {ac : Nat → Nat} {ah : Nat → Nat} {ca : Nat → Nat} {ga : Nat → Nat} {ta : Nat → Nat} {tb : Nat → Nat} {tc : Nat → Nat} {td : Nat → Nat} {nb : Nat} {nv : Nat} {no : Nat} {nd : Nat} {gm : Nat → Nat} {P : Nat → Nat → Int32} {T : Nat → Nat → Int32} {K : Nat → Nat → Int32} {X : Nat → Int32} {Y : Nat → Int32} {C : Nat → Int32} {F : Nat → Int64} {zz : Int32} {SO : Nat → Int32} {LE : Nat → Int32} {RO : Nat → Nat → Int64} {hi : Int32} {s0 : Nat → Int32} {im : Nat → Int32} {fr : Nat → Int32} {hd : Nat → Int32} {nw : Nat → Int32} {hh : Nat → Int32} {qs : Nat → Int32} {qz : Nat → Int32} {it : Nat → Int64} {th : Int32} {hm : Int32} {ow : Int32} {lo : Int32} {n : Nat} (hn : n ≤ 600) (hI : LI n P K hi SO LE RO s0 im hm qs qz it) {x3 : Int32} (h1 : vp_in (x3 + 1) L) (h2 : vp_in (x3 + 2) L) (h3 : vp_in (x3 + 3) L) (h4 : vp_in (x3 + 4) L) {H : Heap} {locs : List Loc} (hP : va_P D vwCl (wLaw k dd aa ab ac ah ca ga ta tb tc td nb nv no nd gm P T K X Y C F zz SO LE RO hi s0 im fr hd nw hh qs qz it th hm ow lo) H) (hD : va_D (fun q : Nat => s.heap.size ≤ q) (wLaw k dd aa ab ac ah ca ga ta tb tc td nb nv no nd gm P T K X Y C F zz SO LE RO hi s0 im fr hd nw hh qs qz it th hm ow lo)) (hS : va_S (fun q : Nat => s.heap.size ≤ q) s.heap H locs) {ls : Array Slot} (hl : lv_has ls 4 [(0, .ref b), (1, .ref (dd 0)), (2, .ref (gm 0)), (3, .int x3)]) (kk : LKK p l e s m below meth c b D k dd aa ab ac ah ca ga ta tb tc td nb nv no nd gm n x3) : W p l e room_1 s m #[Value.ref b] below meth c H locs 61 4399 (lw_Z below #[Value.ref b] s) (F0 m 1116 ls []) := by
  obtain ⟨hx, hb, hr, hml, hown, hts, hX, hbl, hlocks, hgv⟩ := C0
  have hown : s.vm.findClass RL = some m.cls := hown
  have htsL : ∀ w ∈ wsL_law, w.before #[Value.ref b] s = true := fun w h => hts w (wsL_law_in w h)
  have hA : ∀ q : Nat, s.heap.size ≤ q → (fun q : Nat => s.heap.size ≤ q) q := fun _ h => h
  have hbA : ¬ (fun q : Nat => s.heap.size ≤ q) b := Nat.not_le.mpr hbl
  obtain ⟨r, SO', LE', RO', qs', qz', it', e7, e8, hI'⟩ := lc_differ hn P T K X Y C F zz SO LE RO hi s0 im fr hd nw hh qs qz it th hm ow lo hI (xs (Int32.toNatClampNeg (x3 + 1))) (xs (Int32.toNatClampNeg (x3 + 2))) (xs (Int32.toNatClampNeg (x3 + 3)))
  refine lv_aload_n hx hb dL_law_1116 rfl (lv_at hl 1 rfl) ?_
  refine lv_aload_n hx hb dL_law_1117 rfl (lv_at hl 0 rfl) ?_
  refine lv_iload_n hx hb dL_law_1118 rfl (lv_at hl 3 rfl) ?_
  refine lv_iconst (v := 1) hx hb dL_law_1119 (by decide) ?_
  refine lv_iadd hx hb dL_law_1120 ?_
  refine va_sld hx hb hX hbl hbA hS h1 dL_law_1121 ?_
  refine lv_aload_n hx hb dL_law_1122 rfl (lv_at hl 0 rfl) ?_
  refine lv_iload_n hx hb dL_law_1123 rfl (lv_at hl 3 rfl) ?_
  refine lv_iconst (v := 2) hx hb dL_law_1124 (by decide) ?_
  refine lv_iadd hx hb dL_law_1125 ?_
  refine va_sld hx hb hX hbl hbA hS h2 dL_law_1126 ?_
  refine lv_aload_n hx hb dL_law_1127 rfl (lv_at hl 0 rfl) ?_
  refine lv_iload_n hx hb dL_law_1128 rfl (lv_at hl 3 rfl) ?_
  refine lv_iconst (v := 3) hx hb dL_law_1129 (by decide) ?_
  refine lv_iadd hx hb dL_law_1130 ?_
  refine va_sld hx hb hX hbl hbA hS h3 dL_law_1131 ?_
  refine cVi (wf := (wLaw k dd aa ab ac ah ca ga ta tb tc td nb nv no nd gm P T K X Y C F zz SO' LE' RO' hi s0 im fr hd nw hh qs qz it th hm ow lo)) (As := [.int (xs (Int32.toNatClampNeg (x3 + 1))), .int (xs (Int32.toNatClampNeg (x3 + 2))), .int (xs (Int32.toNatClampNeg (x3 + 3)))]) (rest := []) ⟨hx, hb, hml, hown, htsL⟩ hK hA hP hD hS (mX7_differ l D k dd aa ab ac ah ca ga ta tb tc td nb nv no nd (P := P) (T := T) (K := K) (X := X) (Y := Y) (C := C) (F := F) (z := zz) (SO_0 := SO) (LE_0 := LE) (RO_0 := RO) (hi := hi) e7) (cwV 3 htsL gL_law_X7_differ rfl rfl rfl kX7_differ ⟨(Nat.le_of_ble_eq_true rfl), (Nat.le_of_ble_eq_true rfl)⟩) [0, 1, 2, 3, 4, 5, 6, 7, 8, 9, 10, 11, 12, 13, 14, 15, 16, 17, 18, 19, 20, 21, 22, 23, 24, 25, 26, 27, 28, 29, 30, 31, 32, 33, 34, 35, 36, 37, 38, 39, 40, 41, 42, 43, 44, 45, 46, 47, 48, 49, 50] rfl rfl rfl [false, false, false, false, false, false, false, false, false, false, false, false, false, false, false, false, false, false, false, false, false, false, false, false, false, false, false, false, false, false, false, false, false, false, false, false, false, false, false, false, false, false, false, false, false, false, false, false, false, false, false, true, true, true, true, true, true, true, true, true, true] ⟨rfl, rfl, rfl, rfl, rfl, rfl, rfl, rfl, rfl, rfl, trivial⟩ 61 rfl (by decide +kernel) rfl 0 rfl rfl rfl hl.1 rfl (Nat.le_of_ble_eq_true rfl) ⟨(Nat.le_of_ble_eq_true rfl), (Nat.le_of_ble_eq_true rfl)⟩ dL_law_1132 (fun H locs hP hD hS => ?_)
  refine lv_aload_n hx hb dL_law_1135 rfl (lv_at hl 2 rfl) ?_
  refine lv_aload_n hx hb dL_law_1136 rfl (lv_at hl 0 rfl) ?_
  refine lv_iload_n hx hb dL_law_1137 rfl (lv_at hl 3 rfl) ?_
  refine lv_iconst (v := 1) hx hb dL_law_1138 (by decide) ?_
  refine lv_iadd hx hb dL_law_1139 ?_
  refine va_sld hx hb hX hbl hbA hS h1 dL_law_1140 ?_
  refine lv_aload_n hx hb dL_law_1141 rfl (lv_at hl 0 rfl) ?_
  refine lv_iload_n hx hb dL_law_1142 rfl (lv_at hl 3 rfl) ?_
  refine lv_iconst (v := 2) hx hb dL_law_1143 (by decide) ?_
  refine lv_iadd hx hb dL_law_1144 ?_
  refine va_sld hx hb hX hbl hbA hS h2 dL_law_1145 ?_
  refine lv_aload_n hx hb dL_law_1146 rfl (lv_at hl 0 rfl) ?_
  refine lv_iload_n hx hb dL_law_1147 rfl (lv_at hl 3 rfl) ?_
  refine lv_iconst (v := 3) hx hb dL_law_1148 (by decide) ?_
  refine lv_iadd hx hb dL_law_1149 ?_
  refine va_sld hx hb hX hbl hbA hS h3 dL_law_1150 ?_
  refine cVi (wf := (wLaw k dd aa ab ac ah ca ga ta tb tc td nb nv no nd gm P T K X Y C F zz SO' LE' RO' hi s0 im fr hd nw hh qs' qz' it' th hm ow lo)) (As := [.int (xs (Int32.toNatClampNeg (x3 + 1))), .int (xs (Int32.toNatClampNeg (x3 + 2))), .int (xs (Int32.toNatClampNeg (x3 + 3)))]) (rest := [.int r]) ⟨hx, hb, hml, hown, htsL⟩ hK hA hP hD hS (mX8_differ l D k gm (s := s0) (im := im) (fr := fr) (hd := hd) (nw := nw) (hh := hh) (qs_0 := qs) (qz_0 := qz) (it_0 := it) (th := th) (hm := hm) (ow := ow) (lo := lo) e8) (cwV 3 htsL gL_law_X8_differ rfl rfl rfl kX8_differ ⟨(Nat.le_of_ble_eq_true rfl), (Nat.le_of_ble_eq_true rfl)⟩) [51, 52, 53, 54, 55, 56, 57, 58, 59, 60] rfl rfl rfl [true, true, true, true, true, true, true, true, true, true, true, true, true, true, true, true, true, true, true, true, true, true, true, true, true, true, true, true, true, true, true, true, true, true, true, true, true, true, true, true, true, true, true, true, true, true, true, true, true, true, true, false, false, false, false, false, false, false, false, false, false] ⟨rfl, rfl, rfl, rfl, rfl, rfl, rfl, rfl, rfl, rfl, rfl, rfl, rfl, rfl, rfl, rfl, rfl, rfl, rfl, rfl, rfl, rfl, rfl, rfl, rfl, rfl, rfl, rfl, rfl, rfl, rfl, rfl, rfl, rfl, rfl, rfl, rfl, rfl, rfl, rfl, rfl, rfl, rfl, rfl, rfl, rfl, rfl, rfl, rfl, rfl, rfl, trivial⟩ 61 rfl (by decide +kernel) rfl 0 rfl rfl rfl hl.1 rfl (Nat.le_of_ble_eq_true rfl) ⟨(Nat.le_of_ble_eq_true rfl), (Nat.le_of_ble_eq_true rfl)⟩ dL_law_1151 (fun H locs hP hD hS => ?_)
  refine lv_icmp_eq (tgt := 1295) hx hb dL_law_1154 (by decide) (fun _ => ?_) (fun c1 => absurd rfl c1)
  exact kk P T K X Y C F zz SO' LE' RO' hi s0 im fr hd nw hh qs' qz' it' th hm ow lo hI' H locs hP hD hS ls hl
set_option maxRecDepth 100000 in
set_option maxHeartbeats 4000000 in
theorem law_apply {p : Program} {l : Launch} {e : Env} {s : State} {m : MethodId} {below : List Frame} {meth : Method} {c : Code} {b L : Nat} {xs : Nat → Int32} (C0 : lw_At p s m meth c b L xs) {D : va_G} {k : Nat → ClassId} (hK : va_K D vwCl (kTy k) s) {dd : Nat → Nat} {aa : Nat → Nat} {ab : Nat → Nat} {ac : Nat → Nat} {ah : Nat → Nat} {ca : Nat → Nat} {ga : Nat → Nat} {ta : Nat → Nat} {tb : Nat → Nat} {tc : Nat → Nat} {td : Nat → Nat} {nb : Nat} {nv : Nat} {no : Nat} {nd : Nat} {gm : Nat → Nat} {P : Nat → Nat → Int32} {T : Nat → Nat → Int32} {K : Nat → Nat → Int32} {X : Nat → Int32} {Y : Nat → Int32} {C : Nat → Int32} {F : Nat → Int64} {zz : Int32} {SO : Nat → Int32} {LE : Nat → Int32} {RO : Nat → Nat → Int64} {hi : Int32} {s0 : Nat → Int32} {im : Nat → Int32} {fr : Nat → Int32} {hd : Nat → Int32} {nw : Nat → Int32} {hh : Nat → Int32} {qs : Nat → Int32} {qz : Nat → Int32} {it : Nat → Int64} {th : Int32} {hm : Int32} {ow : Int32} {lo : Int32} {n : Nat} (hn : n ≤ 600) (hI : LI n P K hi SO LE RO s0 im hm qs qz it) {x3 : Int32} (h1 : vp_in (x3 + 1) L) (h2 : vp_in (x3 + 2) L) (h3 : vp_in (x3 + 3) L) (h4 : vp_in (x3 + 4) L) {H : Heap} {locs : List Loc} (hP : va_P D vwCl (wLaw k dd aa ab ac ah ca ga ta tb tc td nb nv no nd gm P T K X Y C F zz SO LE RO hi s0 im fr hd nw hh qs qz it th hm ow lo) H) (hD : va_D (fun q : Nat => s.heap.size ≤ q) (wLaw k dd aa ab ac ah ca ga ta tb tc td nb nv no nd gm P T K X Y C F zz SO LE RO hi s0 im fr hd nw hh qs qz it th hm ow lo)) (hS : va_S (fun q : Nat => s.heap.size ≤ q) s.heap H locs) {ls : Array Slot} (hl : lv_has ls 4 [(0, .ref b), (1, .ref (dd 0)), (2, .ref (gm 0)), (3, .int x3)]) (kk : LKK p l e s m below meth c b D k dd aa ab ac ah ca ga ta tb tc td nb nv no nd gm n x3) : W p l e room_1 s m #[Value.ref b] below meth c H locs 61 4399 (lw_Z below #[Value.ref b] s) (F0 m 1159 ls []) := by
  obtain ⟨hx, hb, hr, hml, hown, hts, hX, hbl, hlocks, hgv⟩ := C0
  have hown : s.vm.findClass RL = some m.cls := hown
  have htsL : ∀ w ∈ wsL_law, w.before #[Value.ref b] s = true := fun w h => hts w (wsL_law_in w h)
  have hA : ∀ q : Nat, s.heap.size ≤ q → (fun q : Nat => s.heap.size ≤ q) q := fun _ h => h
  have hbA : ¬ (fun q : Nat => s.heap.size ≤ q) b := Nat.not_le.mpr hbl
  obtain ⟨r, P', s0', hd', e7, e8, hI'⟩ := lc_apply hn P T K X Y C F zz SO LE RO hi s0 im fr hd nw hh qs qz it th hm ow lo hI (xs (Int32.toNatClampNeg (x3 + 1))) (xs (Int32.toNatClampNeg (x3 + 2))) (xs (Int32.toNatClampNeg (x3 + 3)))
  refine lv_aload_n hx hb dL_law_1159 rfl (lv_at hl 1 rfl) ?_
  refine lv_aload_n hx hb dL_law_1160 rfl (lv_at hl 0 rfl) ?_
  refine lv_iload_n hx hb dL_law_1161 rfl (lv_at hl 3 rfl) ?_
  refine lv_iconst (v := 1) hx hb dL_law_1162 (by decide) ?_
  refine lv_iadd hx hb dL_law_1163 ?_
  refine va_sld hx hb hX hbl hbA hS h1 dL_law_1164 ?_
  refine lv_aload_n hx hb dL_law_1165 rfl (lv_at hl 0 rfl) ?_
  refine lv_iload_n hx hb dL_law_1166 rfl (lv_at hl 3 rfl) ?_
  refine lv_iconst (v := 2) hx hb dL_law_1167 (by decide) ?_
  refine lv_iadd hx hb dL_law_1168 ?_
  refine va_sld hx hb hX hbl hbA hS h2 dL_law_1169 ?_
  refine lv_aload_n hx hb dL_law_1170 rfl (lv_at hl 0 rfl) ?_
  refine lv_iload_n hx hb dL_law_1171 rfl (lv_at hl 3 rfl) ?_
  refine lv_iconst (v := 3) hx hb dL_law_1172 (by decide) ?_
  refine lv_iadd hx hb dL_law_1173 ?_
  refine va_sld hx hb hX hbl hbA hS h3 dL_law_1174 ?_
  refine cVi (wf := (wLaw k dd aa ab ac ah ca ga ta tb tc td nb nv no nd gm P' T K X Y C F zz SO LE RO hi s0 im fr hd nw hh qs qz it th hm ow lo)) (As := [.int (xs (Int32.toNatClampNeg (x3 + 1))), .int (xs (Int32.toNatClampNeg (x3 + 2))), .int (xs (Int32.toNatClampNeg (x3 + 3)))]) (rest := []) ⟨hx, hb, hml, hown, htsL⟩ hK hA hP hD hS (mX7_apply l D k dd aa ab ac ah ca ga ta tb tc td nb nv no nd (P_0 := P) (T := T) (K := K) (X := X) (Y := Y) (C := C) (F := F) (z := zz) (SO := SO) (LE := LE) (RO := RO) (hi := hi) e7) (cwV 3 htsL gL_law_X7_apply rfl rfl rfl kX7_apply ⟨(Nat.le_of_ble_eq_true rfl), (Nat.le_of_ble_eq_true rfl)⟩) [0, 1, 2, 3, 4, 5, 6, 7, 8, 9, 10, 11, 12, 13, 14, 15, 16, 17, 18, 19, 20, 21, 22, 23, 24, 25, 26, 27, 28, 29, 30, 31, 32, 33, 34, 35, 36, 37, 38, 39, 40, 41, 42, 43, 44, 45, 46, 47, 48, 49, 50] rfl rfl rfl [false, false, false, false, false, false, false, false, false, false, false, false, false, false, false, false, false, false, false, false, false, false, false, false, false, false, false, false, false, false, false, false, false, false, false, false, false, false, false, false, false, false, false, false, false, false, false, false, false, false, false, true, true, true, true, true, true, true, true, true, true] ⟨rfl, rfl, rfl, rfl, rfl, rfl, rfl, rfl, rfl, rfl, trivial⟩ 61 rfl (by decide +kernel) rfl 0 rfl rfl rfl hl.1 rfl (Nat.le_of_ble_eq_true rfl) ⟨(Nat.le_of_ble_eq_true rfl), (Nat.le_of_ble_eq_true rfl)⟩ dL_law_1175 (fun H locs hP hD hS => ?_)
  refine lv_aload_n hx hb dL_law_1178 rfl (lv_at hl 2 rfl) ?_
  refine lv_aload_n hx hb dL_law_1179 rfl (lv_at hl 0 rfl) ?_
  refine lv_iload_n hx hb dL_law_1180 rfl (lv_at hl 3 rfl) ?_
  refine lv_iconst (v := 1) hx hb dL_law_1181 (by decide) ?_
  refine lv_iadd hx hb dL_law_1182 ?_
  refine va_sld hx hb hX hbl hbA hS h1 dL_law_1183 ?_
  refine lv_aload_n hx hb dL_law_1184 rfl (lv_at hl 0 rfl) ?_
  refine lv_iload_n hx hb dL_law_1185 rfl (lv_at hl 3 rfl) ?_
  refine lv_iconst (v := 2) hx hb dL_law_1186 (by decide) ?_
  refine lv_iadd hx hb dL_law_1187 ?_
  refine va_sld hx hb hX hbl hbA hS h2 dL_law_1188 ?_
  refine lv_aload_n hx hb dL_law_1189 rfl (lv_at hl 0 rfl) ?_
  refine lv_iload_n hx hb dL_law_1190 rfl (lv_at hl 3 rfl) ?_
  refine lv_iconst (v := 3) hx hb dL_law_1191 (by decide) ?_
  refine lv_iadd hx hb dL_law_1192 ?_
  refine va_sld hx hb hX hbl hbA hS h3 dL_law_1193 ?_
  refine cVi (wf := (wLaw k dd aa ab ac ah ca ga ta tb tc td nb nv no nd gm P' T K X Y C F zz SO LE RO hi s0' im fr hd' nw hh qs qz it th hm ow lo)) (As := [.int (xs (Int32.toNatClampNeg (x3 + 1))), .int (xs (Int32.toNatClampNeg (x3 + 2))), .int (xs (Int32.toNatClampNeg (x3 + 3)))]) (rest := [.int r]) ⟨hx, hb, hml, hown, htsL⟩ hK hA hP hD hS (mX8_apply l D k gm (s_0 := s0) (im := im) (fr := fr) (hd_0 := hd) (nw := nw) (hh := hh) (qs := qs) (qz := qz) (it := it) (th := th) (hm := hm) (ow := ow) (lo := lo) e8) (cwV 3 htsL gL_law_X8_apply rfl rfl rfl kX8_apply ⟨(Nat.le_of_ble_eq_true rfl), (Nat.le_of_ble_eq_true rfl)⟩) [51, 52, 53, 54, 55, 56, 57, 58, 59, 60] rfl rfl rfl [true, true, true, true, true, true, true, true, true, true, true, true, true, true, true, true, true, true, true, true, true, true, true, true, true, true, true, true, true, true, true, true, true, true, true, true, true, true, true, true, true, true, true, true, true, true, true, true, true, true, true, false, false, false, false, false, false, false, false, false, false] ⟨rfl, rfl, rfl, rfl, rfl, rfl, rfl, rfl, rfl, rfl, rfl, rfl, rfl, rfl, rfl, rfl, rfl, rfl, rfl, rfl, rfl, rfl, rfl, rfl, rfl, rfl, rfl, rfl, rfl, rfl, rfl, rfl, rfl, rfl, rfl, rfl, rfl, rfl, rfl, rfl, rfl, rfl, rfl, rfl, rfl, rfl, rfl, rfl, rfl, rfl, rfl, trivial⟩ 61 rfl (by decide +kernel) rfl 0 rfl rfl rfl hl.1 rfl (Nat.le_of_ble_eq_true rfl) ⟨(Nat.le_of_ble_eq_true rfl), (Nat.le_of_ble_eq_true rfl)⟩ dL_law_1194 (fun H locs hP hD hS => ?_)
  refine lv_icmp_eq (tgt := 1295) hx hb dL_law_1197 (by decide) (fun _ => ?_) (fun c1 => absurd rfl c1)
  exact kk P' T K X Y C F zz SO LE RO hi s0' im fr hd' nw hh qs qz it th hm ow lo hI' H locs hP hD hS ls hl
