theorem kX8_in : yX8_in.cls = RX8 ∧ yX8_in.cls ≠ "java/lang/invoke/MethodHandle" ∧ yX8_in.cls ≠ "java/lang/invoke/VarHandle" ∧ (parseMethodDescriptor yX8_in.desc).map (fun d => d.parameters.length) = some 3 := by decide +kernel
set_option maxRecDepth 100000 in
set_option maxHeartbeats 4000000 in
theorem mX8_in (l : Launch) (D : va_G) (k : Nat → ClassId)   {p0 : Int32} {p1 : Int32} {p2 : Int32} {r : Int32}  (he : xX8_in p0 p1 p2 = some r) : CtI l D k yX8_in wsX8_in ({ frames := 0, cells := 0, slots := 0, locals := 0 } : Room) [.int p0, .int p1, .int p2] [] r [] := by
  intro sz9
  refine cSt (lv := [(0, .int p0), (1, .int p1), (2, .int p2)]) (own := RX8) (cc := cX8_in) (nL := 3) (ret := (some .boolean)) (by decide +kernel) rfl rfl (Nat.le_of_ble_eq_true rfl) rfl ?_
  intro pp ee ss mm bl me co hsz hC0 hP hD hS ls hl
  subst hsz
  obtain ⟨hx, hb, hr, hml, hown, hts, hK, hlk⟩ := hC0
  have hA : ∀ q, ss.heap.size ≤ q → va_A [] ss.heap.size q := fun q h => Or.inr h
  have hS0 := hS
  have key : ∀ (H : Heap) (locs : List Loc), H = ss.heap → locs = [] → va_P D vwCl [] H → va_S (va_A [] ss.heap.size) ss.heap H locs → W pp l ee ({ frames := 0, cells := 0, slots := 0, locals := 0 } : Room) ss mm ([.int p0, .int p1, .int p2] : List Value).toArray bl me co H locs 0 0 (MQ bl (cQi D k [] ss.heap.size r []) ([.int p0, .int p1, .int p2] : List Value).toArray ss 0 0 (va_A [] ss.heap.size)) (F0 mm 0 ls []) := by
    intro H locs _ _ hP hS
    refine lv_iload_n hx hb dX8_in_0 rfl (lv_at hl 0 rfl) ?_
    refine lv_iload_n hx hb dX8_in_1 rfl (lv_at hl 1 rfl) ?_
    refine lv_icmp_lt (tgt := 14) hx hb dX8_in_2 (by decide) (fun c1001 => ?_) (fun c1001 => ?_)
    · have he := ifp he c1001
      refine lv_iconst (v := 0) hx hb dX8_in_14 (by decide) ?_
      obtain rfl := some1 he
      exact cRi hx hb hr hlk hK rfl hP hD hS dX8_in_15
    · have he := ifn he c1001
      refine lv_iload_n hx hb dX8_in_5 rfl (lv_at hl 0 rfl) ?_
      refine lv_iload_n hx hb dX8_in_6 rfl (lv_at hl 2 rfl) ?_
      refine lv_icmp_gt (tgt := 14) hx hb dX8_in_7 (by decide) (fun c1002 => ?_) (fun c1002 => ?_)
      · have he := ifp he c1002
        refine lv_iconst (v := 0) hx hb dX8_in_14 (by decide) ?_
        obtain rfl := some1 he
        exact cRi hx hb hr hlk hK rfl hP hD hS dX8_in_15
      · have he := ifn he c1002
        refine lv_iconst (v := 1) hx hb dX8_in_10 (by decide) ?_
        refine lv_goto (tgt := 15) hx hb dX8_in_11 (by decide) ?_
        obtain rfl := some1 he
        exact cRi hx hb hr hlk hK rfl hP hD hS dX8_in_15
  exact key ss.heap [] rfl rfl hP hS
theorem kX8_isThing : yX8_isThing.cls = RX8 ∧ yX8_isThing.cls ≠ "java/lang/invoke/MethodHandle" ∧ yX8_isThing.cls ≠ "java/lang/invoke/VarHandle" ∧ (parseMethodDescriptor yX8_isThing.desc).map (fun d => d.parameters.length) = some 1 := by decide +kernel
set_option maxRecDepth 100000 in
set_option maxHeartbeats 4000000 in
theorem mX8_isThing (l : Launch) (D : va_G) (k : Nat → ClassId) (g : Nat → Nat) {s : Nat → Int32} {im : Nat → Int32} {fr : Nat → Int32} {hd : Nat → Int32} {nw : Nat → Int32} {hh : Nat → Int32} {qs : Nat → Int32} {qz : Nat → Int32} {it : Nat → Int64} {th : Int32} {hm : Int32} {ow : Int32} {lo : Int32} {p1 : Int32} {r : Int32}  (he : xX8_isThing s p1 = some r) : CtI l D k yX8_isThing wsX8_isThing ({ frames := 1, cells := 0, slots := 0, locals := 22 } : Room) [.ref (g 0), .int p1] (wModel k g s im fr hd nw hh qs qz it th hm ow lo) r (wModel k g s im fr hd nw hh qs qz it th hm ow lo) := by
  intro sz9
  refine cSt (lv := [(0, .ref (g 0)), (1, .int p1)]) (own := RX8) (cc := cX8_isThing) (nL := 2) (ret := (some .boolean)) (by decide +kernel) rfl rfl (Nat.le_of_ble_eq_true rfl) rfl ?_
  intro pp ee ss mm bl me co hsz hC0 hP hD hS ls hl
  subst hsz
  obtain ⟨hx, hb, hr, hml, hown, hts, hK, hlk⟩ := hC0
  have hA : ∀ q, ss.heap.size ≤ q → va_A (wModel k g s im fr hd nw hh qs qz it th hm ow lo) ss.heap.size q := fun q h => Or.inr h
  have iX8 : ∀ w ∈ wsX80, w ∈ wsX8_isThing := fun _ h => List.mem_cons_of_mem _ (List.mem_append_right _ h)
  have w1 := hts (.fieldLink RX8 7 "DeadListPoolModel" "s" "[I") (List.mem_of_getElem? (i := 1) rfl)
  have hS0 := hS
  have key : ∀ (H : Heap) (locs : List Loc), H = ss.heap → locs = [] → va_P D vwCl (wModel k g s im fr hd nw hh qs qz it th hm ow lo) H → va_S (va_A (wModel k g s im fr hd nw hh qs qz it th hm ow lo) ss.heap.size) ss.heap H locs → W pp l ee ({ frames := 1, cells := 0, slots := 0, locals := 22 } : Room) ss mm ([.ref (g 0), .int p1] : List Value).toArray bl me co H locs 0 0 (MQ bl (cQi D k (wModel k g s im fr hd nw hh qs qz it th hm ow lo) ss.heap.size r (wModel k g s im fr hd nw hh qs qz it th hm ow lo)) ([.ref (g 0), .int p1] : List Value).toArray ss 0 0 (va_A (wModel k g s im fr hd nw hh qs qz it th hm ow lo) ss.heap.size)) (F0 mm 0 ls []) := by
    intro H locs _ _ hP hS
    refine lv_iload_n hx hb dX8_isThing_0 rfl (lv_at hl 1 rfl) ?_
    refine lv_iconst (v := 0) hx hb dX8_isThing_1 (by decide) ?_
    refine lv_bipush (v := 19) hx hb dX8_isThing_2 (by decide) ?_
    obtain ⟨v1001, h1002, he⟩ := bn1_i he
    refine cSi (rest := []) ⟨hx, hb, hml, hown, hts⟩ hK hA hP hD hS (mX8_in l D k h1002) (cwS 3 hts gX8_isThing_X8_in rfl rfl rfl kX8_in ⟨Nat.le_of_ble_eq_true rfl, Nat.le_of_ble_eq_true rfl⟩) rfl hl.1 rfl (Nat.le_of_ble_eq_true rfl) ⟨Nat.le_refl 0, Nat.le_refl 0⟩ dX8_isThing_4 (fun H locs hP hD hS => ?_)
    refine lv_if_eq (tgt := 26) hx hb dX8_isThing_7 (by decide) (fun c1003 => ?_) (fun c1003 => ?_)
    · have he := ifp he c1003
      refine lv_iconst (v := 0) hx hb dX8_isThing_26 (by decide) ?_
      obtain rfl := some1 he
      exact cRi hx hb hr hlk hK rfl hP hD hS dX8_isThing_27
    · have he := ifn he c1003
      refine lv_aload_n hx hb dX8_isThing_10 rfl (lv_at hl 0 rfl) ?_
      refine va_get (D := D) (ci := 8) (v := .ref (g 1)) (C := RX8) (T := TX8) (N := 13) hx hb hts iX8 hown hK hP 0 rfl rfl 1 (by decide) w1 (fun _ h9 => h9) rfl dX8_isThing_11 ?_
      refine lv_iconst (v := 2) hx hb dX8_isThing_14 (by decide) ?_
      refine lv_iload_n hx hb dX8_isThing_15 rfl (lv_at hl 1 rfl) ?_
      refine lv_iadd hx hb dX8_isThing_16 ?_
      obtain ⟨h1004, he⟩ := grd_i he
      refine va_iald hx hb hK hP 1 0 rfl rfl (ix_in h1004) dX8_isThing_17 ?_
      refine lv_iconst (v := (-1)) hx hb dX8_isThing_18 (by decide) ?_
      refine lv_icmp_eq (tgt := 26) hx hb dX8_isThing_19 (by decide) (fun c1005 => ?_) (fun c1005 => ?_)
      · have he := ifp he c1005
        refine lv_iconst (v := 0) hx hb dX8_isThing_26 (by decide) ?_
        obtain rfl := some1 he
        exact cRi hx hb hr hlk hK rfl hP hD hS dX8_isThing_27
      · have he := ifn he c1005
        refine lv_iconst (v := 1) hx hb dX8_isThing_22 (by decide) ?_
        refine lv_goto (tgt := 27) hx hb dX8_isThing_23 (by decide) ?_
        obtain rfl := some1 he
        exact cRi hx hb hr hlk hK rfl hP hD hS dX8_isThing_27
  exact key ss.heap [] rfl rfl hP hS
theorem kX8_isUnder : yX8_isUnder.cls = RX8 ∧ yX8_isUnder.cls ≠ "java/lang/invoke/MethodHandle" ∧ yX8_isUnder.cls ≠ "java/lang/invoke/VarHandle" ∧ (parseMethodDescriptor yX8_isUnder.desc).map (fun d => d.parameters.length) = some 2 := by decide +kernel
set_option maxRecDepth 100000 in
set_option maxHeartbeats 4000000 in
theorem mX8_isUnder (l : Launch) (D : va_G) (k : Nat → ClassId)   {p0 : Int32} {p1 : Int32} {r : Int32}  (he : xX8_isUnder p0 p1 = some r) : CtI l D k yX8_isUnder wsX8_isUnder ({ frames := 0, cells := 0, slots := 0, locals := 0 } : Room) [.int p0, .int p1] [] r [] := by
  intro sz9
  refine cSt (lv := [(0, .int p0), (1, .int p1)]) (own := RX8) (cc := cX8_isUnder) (nL := 2) (ret := (some .boolean)) (by decide +kernel) rfl rfl (Nat.le_of_ble_eq_true rfl) rfl ?_
  intro pp ee ss mm bl me co hsz hC0 hP hD hS ls hl
  subst hsz
  obtain ⟨hx, hb, hr, hml, hown, hts, hK, hlk⟩ := hC0
  have hA : ∀ q, ss.heap.size ≤ q → va_A [] ss.heap.size q := fun q h => Or.inr h
  have B14 : ∀ (x0 : Int32) (x1 : Int32), xX8_isUnder_14 x0 x1 = some r → ∀ (H : Heap) (locs : List Loc), va_P D vwCl [] H → va_D (va_A [] ss.heap.size) [] → va_S (va_A [] ss.heap.size) ss.heap H locs → ∀ ls : Array Slot, lv_has ls 2 [(0, .int x0), (1, .int x1)] → W pp l ee ({ frames := 0, cells := 0, slots := 0, locals := 0 } : Room) ss mm ([.int p0, .int p1] : List Value).toArray bl me co H locs 0 0 (MQ bl (cQi D k [] ss.heap.size r []) ([.int p0, .int p1] : List Value).toArray ss 0 0 (va_A [] ss.heap.size)) (F0 mm 14 ls []) := by
    intro x0 x1 he H locs hP hD hS ls hl
    refine lv_iload_n hx hb dX8_isUnder_14 rfl (lv_at hl 0 rfl) ?_
    refine lv_iconst (v := 3) hx hb dX8_isUnder_15 (by decide) ?_
    refine lv_icmp_ne (tgt := 28) hx hb dX8_isUnder_16 (by decide) (fun c1 => ?_) (fun c1 => ?_)
    · have he := ifn he c1
      refine lv_iconst (v := 0) hx hb dX8_isUnder_28 (by decide) ?_
      obtain rfl := some1 he
      exact cRi hx hb hr hlk hK rfl hP hD hS dX8_isUnder_29
    · have he := ifp he c1
      refine lv_iload_n hx hb dX8_isUnder_19 rfl (lv_at hl 1 rfl) ?_
      refine lv_iconst (v := 2) hx hb dX8_isUnder_20 (by decide) ?_
      refine lv_icmp_ne (tgt := 28) hx hb dX8_isUnder_21 (by decide) (fun c2 => ?_) (fun c2 => ?_)
      · have he := ifn he c2
        refine lv_iconst (v := 0) hx hb dX8_isUnder_28 (by decide) ?_
        obtain rfl := some1 he
        exact cRi hx hb hr hlk hK rfl hP hD hS dX8_isUnder_29
      · have he := ifp he c2
        refine lv_iconst (v := 1) hx hb dX8_isUnder_24 (by decide) ?_
        refine lv_goto (tgt := 29) hx hb dX8_isUnder_25 (by decide) ?_
        obtain rfl := some1 he
        exact cRi hx hb hr hlk hK rfl hP hD hS dX8_isUnder_29
  have hS0 := hS
  have key : ∀ (H : Heap) (locs : List Loc), H = ss.heap → locs = [] → va_P D vwCl [] H → va_S (va_A [] ss.heap.size) ss.heap H locs → W pp l ee ({ frames := 0, cells := 0, slots := 0, locals := 0 } : Room) ss mm ([.int p0, .int p1] : List Value).toArray bl me co H locs 0 0 (MQ bl (cQi D k [] ss.heap.size r []) ([.int p0, .int p1] : List Value).toArray ss 0 0 (va_A [] ss.heap.size)) (F0 mm 0 ls []) := by
    intro H locs _ _ hP hS
    refine lv_iload_n hx hb dX8_isUnder_0 rfl (lv_at hl 0 rfl) ?_
    refine lv_iload_n hx hb dX8_isUnder_1 rfl (lv_at hl 1 rfl) ?_
    refine lv_icmp_eq (tgt := 24) hx hb dX8_isUnder_2 (by decide) (fun c1001 => ?_) (fun c1001 => ?_)
    · have he := ifp he c1001
      refine lv_iconst (v := 1) hx hb dX8_isUnder_24 (by decide) ?_
      refine lv_goto (tgt := 29) hx hb dX8_isUnder_25 (by decide) ?_
      obtain rfl := some1 he
      exact cRi hx hb hr hlk hK rfl hP hD hS dX8_isUnder_29
    · have he := ifn he c1001
      refine lv_iload_n hx hb dX8_isUnder_5 rfl (lv_at hl 0 rfl) ?_
      refine lv_iconst (v := 1) hx hb dX8_isUnder_6 (by decide) ?_
      refine lv_icmp_ne (tgt := 14) hx hb dX8_isUnder_7 (by decide) (fun c1002 => ?_) (fun c1002 => ?_)
      · have he := ifn he c1002
        exact B14 p0 p1 he H locs hP hD hS ls (lv_sub hl [0, 1] rfl)
      · have he := ifp he c1002
        refine lv_iload_n hx hb dX8_isUnder_10 rfl (lv_at hl 1 rfl) ?_
        refine lv_if_eq (tgt := 24) hx hb dX8_isUnder_11 (by decide) (fun c1003 => ?_) (fun c1003 => ?_)
        · have he := ifp he c1003
          refine lv_iconst (v := 1) hx hb dX8_isUnder_24 (by decide) ?_
          refine lv_goto (tgt := 29) hx hb dX8_isUnder_25 (by decide) ?_
          obtain rfl := some1 he
          exact cRi hx hb hr hlk hK rfl hP hD hS dX8_isUnder_29
        · have he := ifn he c1003
          exact B14 p0 p1 he H locs hP hD hS ls (lv_sub hl [0, 1] rfl)
  exact key ss.heap [] rfl rfl hP hS
theorem kX8_isFiles : yX8_isFiles.cls = RX8 ∧ yX8_isFiles.cls ≠ "java/lang/invoke/MethodHandle" ∧ yX8_isFiles.cls ≠ "java/lang/invoke/VarHandle" ∧ (parseMethodDescriptor yX8_isFiles.desc).map (fun d => d.parameters.length) = some 1 := by decide +kernel
set_option maxRecDepth 100000 in
set_option maxHeartbeats 4000000 in
theorem mX8_isFiles (l : Launch) (D : va_G) (k : Nat → ClassId) (g : Nat → Nat) {s : Nat → Int32} {im : Nat → Int32} {fr : Nat → Int32} {hd : Nat → Int32} {nw : Nat → Int32} {hh : Nat → Int32} {qs : Nat → Int32} {qz : Nat → Int32} {it : Nat → Int64} {th : Int32} {hm : Int32} {ow : Int32} {lo : Int32} {p1 : Int32} {r : Int32}  (he : xX8_isFiles s p1 = some r) : CtI l D k yX8_isFiles wsX8_isFiles ({ frames := 2, cells := 0, slots := 0, locals := 43 } : Room) [.ref (g 0), .int p1] (wModel k g s im fr hd nw hh qs qz it th hm ow lo) r (wModel k g s im fr hd nw hh qs qz it th hm ow lo) := by
  intro sz9
  refine cSt (lv := [(0, .ref (g 0)), (1, .int p1)]) (own := RX8) (cc := cX8_isFiles) (nL := 2) (ret := (some .boolean)) (by decide +kernel) rfl rfl (Nat.le_of_ble_eq_true rfl) rfl ?_
  intro pp ee ss mm bl me co hsz hC0 hP hD hS ls hl
  subst hsz
  obtain ⟨hx, hb, hr, hml, hown, hts, hK, hlk⟩ := hC0
  have hA : ∀ q, ss.heap.size ≤ q → va_A (wModel k g s im fr hd nw hh qs qz it th hm ow lo) ss.heap.size q := fun q h => Or.inr h
  have iX8 : ∀ w ∈ wsX80, w ∈ wsX8_isFiles := fun _ h => List.mem_cons_of_mem _ (List.mem_append_right _ h)
  have w1 := hts (.fieldLink RX8 7 "DeadListPoolModel" "s" "[I") (List.mem_of_getElem? (i := 1) rfl)
  have hS0 := hS
  have key : ∀ (H : Heap) (locs : List Loc), H = ss.heap → locs = [] → va_P D vwCl (wModel k g s im fr hd nw hh qs qz it th hm ow lo) H → va_S (va_A (wModel k g s im fr hd nw hh qs qz it th hm ow lo) ss.heap.size) ss.heap H locs → W pp l ee ({ frames := 2, cells := 0, slots := 0, locals := 43 } : Room) ss mm ([.ref (g 0), .int p1] : List Value).toArray bl me co H locs 0 0 (MQ bl (cQi D k (wModel k g s im fr hd nw hh qs qz it th hm ow lo) ss.heap.size r (wModel k g s im fr hd nw hh qs qz it th hm ow lo)) ([.ref (g 0), .int p1] : List Value).toArray ss 0 0 (va_A (wModel k g s im fr hd nw hh qs qz it th hm ow lo) ss.heap.size)) (F0 mm 0 ls []) := by
    intro H locs _ _ hP hS
    refine lv_aload_n hx hb dX8_isFiles_0 rfl (lv_at hl 0 rfl) ?_
    refine lv_iload_n hx hb dX8_isFiles_1 rfl (lv_at hl 1 rfl) ?_
    obtain ⟨v1001, h1002, he⟩ := bn1_i he
    refine cVir (As := [.int p1]) (rest := []) ⟨hx, hb, hml, hown, hts⟩ hK hA hP hD hS (mX8_isThing l D k g (s := s) (im := im) (fr := fr) (hd := hd) (nw := nw) (hh := hh) (qs := qs) (qz := qz) (it := it) (th := th) (hm := hm) (ow := ow) (lo := lo) h1002) (cwV 1 hts gX8_isFiles_X8_isThing rfl rfl rfl kX8_isThing ⟨Nat.le_of_ble_eq_true rfl, Nat.le_of_ble_eq_true rfl⟩) [0, 1, 2, 3, 4, 5, 6, 7, 8, 9] rfl rfl 0 rfl rfl rfl hl.1 rfl (Nat.le_of_ble_eq_true rfl) ⟨Nat.le_refl 0, Nat.le_refl 0⟩ dX8_isFiles_2 (fun H locs hP hD hS => ?_)
    refine lv_if_eq (tgt := 27) hx hb dX8_isFiles_5 (by decide) (fun c1003 => ?_) (fun c1003 => ?_)
    · have he := ifp he c1003
      refine lv_iconst (v := 0) hx hb dX8_isFiles_27 (by decide) ?_
      obtain rfl := some1 he
      exact cRi hx hb hr hlk hK rfl hP hD hS dX8_isFiles_28
    · have he := ifn he c1003
      refine lv_aload_n hx hb dX8_isFiles_8 rfl (lv_at hl 0 rfl) ?_
      refine va_get (D := D) (ci := 8) (v := .ref (g 1)) (C := RX8) (T := TX8) (N := 13) hx hb hts iX8 hown hK hP 0 rfl rfl 1 (by decide) w1 (fun _ h9 => h9) rfl dX8_isFiles_9 ?_
      refine lv_iconst (v := 2) hx hb dX8_isFiles_12 (by decide) ?_
      refine lv_iload_n hx hb dX8_isFiles_13 rfl (lv_at hl 1 rfl) ?_
      refine lv_iadd hx hb dX8_isFiles_14 ?_
      obtain ⟨h1004, he⟩ := grd_i he
      refine va_iald hx hb hK hP 1 0 rfl rfl (ix_in h1004) dX8_isFiles_15 ?_
      refine lv_iconst (v := 0) hx hb dX8_isFiles_16 (by decide) ?_
      obtain ⟨v1005, h1006, he⟩ := bn1_i he
      refine cSi (rest := []) ⟨hx, hb, hml, hown, hts⟩ hK hA hP hD hS (mX8_isUnder l D k h1006) (cwS 2 hts gX8_isFiles_X8_isUnder rfl rfl rfl kX8_isUnder ⟨Nat.le_of_ble_eq_true rfl, Nat.le_of_ble_eq_true rfl⟩) rfl hl.1 rfl (Nat.le_of_ble_eq_true rfl) ⟨Nat.le_refl 0, Nat.le_refl 0⟩ dX8_isFiles_17 (fun H locs hP hD hS => ?_)
      refine lv_if_eq (tgt := 27) hx hb dX8_isFiles_20 (by decide) (fun c1007 => ?_) (fun c1007 => ?_)
      · have he := ifp he c1007
        refine lv_iconst (v := 0) hx hb dX8_isFiles_27 (by decide) ?_
        obtain rfl := some1 he
        exact cRi hx hb hr hlk hK rfl hP hD hS dX8_isFiles_28
      · have he := ifn he c1007
        refine lv_iconst (v := 1) hx hb dX8_isFiles_23 (by decide) ?_
        refine lv_goto (tgt := 28) hx hb dX8_isFiles_24 (by decide) ?_
        obtain rfl := some1 he
        exact cRi hx hb hr hlk hK rfl hP hD hS dX8_isFiles_28
  exact key ss.heap [] rfl rfl hP hS
theorem kX8_isSnapshot : yX8_isSnapshot.cls = RX8 ∧ yX8_isSnapshot.cls ≠ "java/lang/invoke/MethodHandle" ∧ yX8_isSnapshot.cls ≠ "java/lang/invoke/VarHandle" ∧ (parseMethodDescriptor yX8_isSnapshot.desc).map (fun d => d.parameters.length) = some 1 := by decide +kernel
set_option maxRecDepth 100000 in
set_option maxHeartbeats 4000000 in
theorem mX8_isSnapshot (l : Launch) (D : va_G) (k : Nat → ClassId) (g : Nat → Nat) {s : Nat → Int32} {im : Nat → Int32} {fr : Nat → Int32} {hd : Nat → Int32} {nw : Nat → Int32} {hh : Nat → Int32} {qs : Nat → Int32} {qz : Nat → Int32} {it : Nat → Int64} {th : Int32} {hm : Int32} {ow : Int32} {lo : Int32} {p1 : Int32} {r : Int32}  (he : xX8_isSnapshot s p1 = some r) : CtI l D k yX8_isSnapshot wsX8_isSnapshot ({ frames := 2, cells := 0, slots := 0, locals := 43 } : Room) [.ref (g 0), .int p1] (wModel k g s im fr hd nw hh qs qz it th hm ow lo) r (wModel k g s im fr hd nw hh qs qz it th hm ow lo) := by
  intro sz9
  refine cSt (lv := [(0, .ref (g 0)), (1, .int p1)]) (own := RX8) (cc := cX8_isSnapshot) (nL := 2) (ret := (some .boolean)) (by decide +kernel) rfl rfl (Nat.le_of_ble_eq_true rfl) rfl ?_
  intro pp ee ss mm bl me co hsz hC0 hP hD hS ls hl
  subst hsz
  obtain ⟨hx, hb, hr, hml, hown, hts, hK, hlk⟩ := hC0
  have hA : ∀ q, ss.heap.size ≤ q → va_A (wModel k g s im fr hd nw hh qs qz it th hm ow lo) ss.heap.size q := fun q h => Or.inr h
  have iX8 : ∀ w ∈ wsX80, w ∈ wsX8_isSnapshot := fun _ h => List.mem_cons_of_mem _ (List.mem_append_right _ h)
  have w1 := hts (.fieldLink RX8 7 "DeadListPoolModel" "s" "[I") (List.mem_of_getElem? (i := 1) rfl)
  have hS0 := hS
  have key : ∀ (H : Heap) (locs : List Loc), H = ss.heap → locs = [] → va_P D vwCl (wModel k g s im fr hd nw hh qs qz it th hm ow lo) H → va_S (va_A (wModel k g s im fr hd nw hh qs qz it th hm ow lo) ss.heap.size) ss.heap H locs → W pp l ee ({ frames := 2, cells := 0, slots := 0, locals := 43 } : Room) ss mm ([.ref (g 0), .int p1] : List Value).toArray bl me co H locs 0 0 (MQ bl (cQi D k (wModel k g s im fr hd nw hh qs qz it th hm ow lo) ss.heap.size r (wModel k g s im fr hd nw hh qs qz it th hm ow lo)) ([.ref (g 0), .int p1] : List Value).toArray ss 0 0 (va_A (wModel k g s im fr hd nw hh qs qz it th hm ow lo) ss.heap.size)) (F0 mm 0 ls []) := by
    intro H locs _ _ hP hS
    refine lv_aload_n hx hb dX8_isSnapshot_0 rfl (lv_at hl 0 rfl) ?_
    refine lv_iload_n hx hb dX8_isSnapshot_1 rfl (lv_at hl 1 rfl) ?_
    obtain ⟨v1001, h1002, he⟩ := bn1_i he
    refine cVir (As := [.int p1]) (rest := []) ⟨hx, hb, hml, hown, hts⟩ hK hA hP hD hS (mX8_isThing l D k g (s := s) (im := im) (fr := fr) (hd := hd) (nw := nw) (hh := hh) (qs := qs) (qz := qz) (it := it) (th := th) (hm := hm) (ow := ow) (lo := lo) h1002) (cwV 1 hts gX8_isSnapshot_X8_isThing rfl rfl rfl kX8_isThing ⟨Nat.le_of_ble_eq_true rfl, Nat.le_of_ble_eq_true rfl⟩) [0, 1, 2, 3, 4, 5, 6, 7, 8, 9] rfl rfl 0 rfl rfl rfl hl.1 rfl (Nat.le_of_ble_eq_true rfl) ⟨Nat.le_refl 0, Nat.le_refl 0⟩ dX8_isSnapshot_2 (fun H locs hP hD hS => ?_)
    refine lv_if_eq (tgt := 27) hx hb dX8_isSnapshot_5 (by decide) (fun c1003 => ?_) (fun c1003 => ?_)
    · have he := ifp he c1003
      refine lv_iconst (v := 0) hx hb dX8_isSnapshot_27 (by decide) ?_
      obtain rfl := some1 he
      exact cRi hx hb hr hlk hK rfl hP hD hS dX8_isSnapshot_28
    · have he := ifn he c1003
      refine lv_aload_n hx hb dX8_isSnapshot_8 rfl (lv_at hl 0 rfl) ?_
      refine va_get (D := D) (ci := 8) (v := .ref (g 1)) (C := RX8) (T := TX8) (N := 13) hx hb hts iX8 hown hK hP 0 rfl rfl 1 (by decide) w1 (fun _ h9 => h9) rfl dX8_isSnapshot_9 ?_
      refine lv_iconst (v := 2) hx hb dX8_isSnapshot_12 (by decide) ?_
      refine lv_iload_n hx hb dX8_isSnapshot_13 rfl (lv_at hl 1 rfl) ?_
      refine lv_iadd hx hb dX8_isSnapshot_14 ?_
      obtain ⟨h1004, he⟩ := grd_i he
      refine va_iald hx hb hK hP 1 0 rfl rfl (ix_in h1004) dX8_isSnapshot_15 ?_
      refine lv_iconst (v := 2) hx hb dX8_isSnapshot_16 (by decide) ?_
      obtain ⟨v1005, h1006, he⟩ := bn1_i he
      refine cSi (rest := []) ⟨hx, hb, hml, hown, hts⟩ hK hA hP hD hS (mX8_isUnder l D k h1006) (cwS 2 hts gX8_isSnapshot_X8_isUnder rfl rfl rfl kX8_isUnder ⟨Nat.le_of_ble_eq_true rfl, Nat.le_of_ble_eq_true rfl⟩) rfl hl.1 rfl (Nat.le_of_ble_eq_true rfl) ⟨Nat.le_refl 0, Nat.le_refl 0⟩ dX8_isSnapshot_17 (fun H locs hP hD hS => ?_)
      refine lv_if_eq (tgt := 27) hx hb dX8_isSnapshot_20 (by decide) (fun c1007 => ?_) (fun c1007 => ?_)
      · have he := ifp he c1007
        refine lv_iconst (v := 0) hx hb dX8_isSnapshot_27 (by decide) ?_
        obtain rfl := some1 he
        exact cRi hx hb hr hlk hK rfl hP hD hS dX8_isSnapshot_28
      · have he := ifn he c1007
        refine lv_iconst (v := 1) hx hb dX8_isSnapshot_23 (by decide) ?_
        refine lv_goto (tgt := 28) hx hb dX8_isSnapshot_24 (by decide) ?_
        obtain rfl := some1 he
        exact cRi hx hb hr hlk hK rfl hP hD hS dX8_isSnapshot_28
  exact key ss.heap [] rfl rfl hP hS
theorem kX8_hasSlots : yX8_hasSlots.cls = RX8 ∧ yX8_hasSlots.cls ≠ "java/lang/invoke/MethodHandle" ∧ yX8_hasSlots.cls ≠ "java/lang/invoke/VarHandle" ∧ (parseMethodDescriptor yX8_hasSlots.desc).map (fun d => d.parameters.length) = some 1 := by decide +kernel
set_option maxRecDepth 100000 in
set_option maxHeartbeats 4000000 in
theorem mX8_hasSlots (l : Launch) (D : va_G) (k : Nat → ClassId) (g : Nat → Nat) {s : Nat → Int32} {im : Nat → Int32} {fr : Nat → Int32} {hd : Nat → Int32} {nw : Nat → Int32} {hh : Nat → Int32} {qs : Nat → Int32} {qz : Nat → Int32} {it : Nat → Int64} {th : Int32} {hm : Int32} {ow : Int32} {lo : Int32} {p1 : Int32} {r : Int32}  (he : xX8_hasSlots s p1 = some r) : CtI l D k yX8_hasSlots wsX8_hasSlots ({ frames := 3, cells := 0, slots := 0, locals := 64 } : Room) [.ref (g 0), .int p1] (wModel k g s im fr hd nw hh qs qz it th hm ow lo) r (wModel k g s im fr hd nw hh qs qz it th hm ow lo) := by
  intro sz9
  refine cSt (lv := [(0, .ref (g 0)), (1, .int p1)]) (own := RX8) (cc := cX8_hasSlots) (nL := 2) (ret := (some .boolean)) (by decide +kernel) rfl rfl (Nat.le_of_ble_eq_true rfl) rfl ?_
  intro pp ee ss mm bl me co hsz hC0 hP hD hS ls hl
  subst hsz
  obtain ⟨hx, hb, hr, hml, hown, hts, hK, hlk⟩ := hC0
  have hA : ∀ q, ss.heap.size ≤ q → va_A (wModel k g s im fr hd nw hh qs qz it th hm ow lo) ss.heap.size q := fun q h => Or.inr h
  have hS0 := hS
  have key : ∀ (H : Heap) (locs : List Loc), H = ss.heap → locs = [] → va_P D vwCl (wModel k g s im fr hd nw hh qs qz it th hm ow lo) H → va_S (va_A (wModel k g s im fr hd nw hh qs qz it th hm ow lo) ss.heap.size) ss.heap H locs → W pp l ee ({ frames := 3, cells := 0, slots := 0, locals := 64 } : Room) ss mm ([.ref (g 0), .int p1] : List Value).toArray bl me co H locs 0 0 (MQ bl (cQi D k (wModel k g s im fr hd nw hh qs qz it th hm ow lo) ss.heap.size r (wModel k g s im fr hd nw hh qs qz it th hm ow lo)) ([.ref (g 0), .int p1] : List Value).toArray ss 0 0 (va_A (wModel k g s im fr hd nw hh qs qz it th hm ow lo) ss.heap.size)) (F0 mm 0 ls []) := by
    intro H locs _ _ hP hS
    refine lv_aload_n hx hb dX8_hasSlots_0 rfl (lv_at hl 0 rfl) ?_
    refine lv_iload_n hx hb dX8_hasSlots_1 rfl (lv_at hl 1 rfl) ?_
    obtain ⟨v1001, h1002, he⟩ := bn1_i he
    refine cVir (As := [.int p1]) (rest := []) ⟨hx, hb, hml, hown, hts⟩ hK hA hP hD hS (mX8_isFiles l D k g (s := s) (im := im) (fr := fr) (hd := hd) (nw := nw) (hh := hh) (qs := qs) (qz := qz) (it := it) (th := th) (hm := hm) (ow := ow) (lo := lo) h1002) (cwV 1 hts gX8_hasSlots_X8_isFiles rfl rfl rfl kX8_isFiles ⟨Nat.le_of_ble_eq_true rfl, Nat.le_of_ble_eq_true rfl⟩) [0, 1, 2, 3, 4, 5, 6, 7, 8, 9] rfl rfl 0 rfl rfl rfl hl.1 rfl (Nat.le_of_ble_eq_true rfl) ⟨Nat.le_refl 0, Nat.le_refl 0⟩ dX8_hasSlots_2 (fun H locs hP hD hS => ?_)
    refine lv_if_ne (tgt := 16) hx hb dX8_hasSlots_5 (by decide) (fun c1003 => ?_) (fun c1003 => ?_)
    · have he := ifn he c1003
      refine lv_iconst (v := 1) hx hb dX8_hasSlots_16 (by decide) ?_
      refine lv_goto (tgt := 21) hx hb dX8_hasSlots_17 (by decide) ?_
      obtain rfl := some1 he
      exact cRi hx hb hr hlk hK rfl hP hD hS dX8_hasSlots_21
    · have he := ifp he c1003
      refine lv_aload_n hx hb dX8_hasSlots_8 rfl (lv_at hl 0 rfl) ?_
      refine lv_iload_n hx hb dX8_hasSlots_9 rfl (lv_at hl 1 rfl) ?_
      obtain ⟨v1004, h1005, he⟩ := bn1_i he
      refine cVir (As := [.int p1]) (rest := []) ⟨hx, hb, hml, hown, hts⟩ hK hA hP hD hS (mX8_isSnapshot l D k g (s := s) (im := im) (fr := fr) (hd := hd) (nw := nw) (hh := hh) (qs := qs) (qz := qz) (it := it) (th := th) (hm := hm) (ow := ow) (lo := lo) h1005) (cwV 1 hts gX8_hasSlots_X8_isSnapshot rfl rfl rfl kX8_isSnapshot ⟨Nat.le_of_ble_eq_true rfl, Nat.le_of_ble_eq_true rfl⟩) [0, 1, 2, 3, 4, 5, 6, 7, 8, 9] rfl rfl 0 rfl rfl rfl hl.1 rfl (Nat.le_of_ble_eq_true rfl) ⟨Nat.le_refl 0, Nat.le_refl 0⟩ dX8_hasSlots_10 (fun H locs hP hD hS => ?_)
      refine lv_if_eq (tgt := 20) hx hb dX8_hasSlots_13 (by decide) (fun c1006 => ?_) (fun c1006 => ?_)
      · have he := ifp he c1006
        refine lv_iconst (v := 0) hx hb dX8_hasSlots_20 (by decide) ?_
        obtain rfl := some1 he
        exact cRi hx hb hr hlk hK rfl hP hD hS dX8_hasSlots_21
      · have he := ifn he c1006
        refine lv_iconst (v := 1) hx hb dX8_hasSlots_16 (by decide) ?_
        refine lv_goto (tgt := 21) hx hb dX8_hasSlots_17 (by decide) ?_
        obtain rfl := some1 he
        exact cRi hx hb hr hlk hK rfl hP hD hS dX8_hasSlots_21
  exact key ss.heap [] rfl rfl hP hS
theorem kX8_there : yX8_there.cls = RX8 ∧ yX8_there.cls ≠ "java/lang/invoke/MethodHandle" ∧ yX8_there.cls ≠ "java/lang/invoke/VarHandle" ∧ (parseMethodDescriptor yX8_there.desc).map (fun d => d.parameters.length) = some 1 := by decide +kernel
set_option maxRecDepth 100000 in
set_option maxHeartbeats 4000000 in
theorem mX8_there (l : Launch) (D : va_G) (k : Nat → ClassId) (g : Nat → Nat) {s : Nat → Int32} {im : Nat → Int32} {fr : Nat → Int32} {hd : Nat → Int32} {nw : Nat → Int32} {hh : Nat → Int32} {qs : Nat → Int32} {qz : Nat → Int32} {it : Nat → Int64} {th : Int32} {hm : Int32} {ow : Int32} {lo : Int32} {p1 : Int32} {r : Int32}  (he : xX8_there s p1 = some r) : CtI l D k yX8_there wsX8_there ({ frames := 2, cells := 0, slots := 0, locals := 43 } : Room) [.ref (g 0), .int p1] (wModel k g s im fr hd nw hh qs qz it th hm ow lo) r (wModel k g s im fr hd nw hh qs qz it th hm ow lo) := by
  intro sz9
  refine cSt (lv := [(0, .ref (g 0)), (1, .int p1)]) (own := RX8) (cc := cX8_there) (nL := 2) (ret := (some .int)) (by decide +kernel) rfl rfl (Nat.le_of_ble_eq_true rfl) rfl ?_
  intro pp ee ss mm bl me co hsz hC0 hP hD hS ls hl
  subst hsz
  obtain ⟨hx, hb, hr, hml, hown, hts, hK, hlk⟩ := hC0
  have hA : ∀ q, ss.heap.size ≤ q → va_A (wModel k g s im fr hd nw hh qs qz it th hm ow lo) ss.heap.size q := fun q h => Or.inr h
  have hS0 := hS
  have key : ∀ (H : Heap) (locs : List Loc), H = ss.heap → locs = [] → va_P D vwCl (wModel k g s im fr hd nw hh qs qz it th hm ow lo) H → va_S (va_A (wModel k g s im fr hd nw hh qs qz it th hm ow lo) ss.heap.size) ss.heap H locs → W pp l ee ({ frames := 2, cells := 0, slots := 0, locals := 43 } : Room) ss mm ([.ref (g 0), .int p1] : List Value).toArray bl me co H locs 0 0 (MQ bl (cQi D k (wModel k g s im fr hd nw hh qs qz it th hm ow lo) ss.heap.size r (wModel k g s im fr hd nw hh qs qz it th hm ow lo)) ([.ref (g 0), .int p1] : List Value).toArray ss 0 0 (va_A (wModel k g s im fr hd nw hh qs qz it th hm ow lo) ss.heap.size)) (F0 mm 0 ls []) := by
    intro H locs _ _ hP hS
    refine lv_iload_n hx hb dX8_there_0 rfl (lv_at hl 1 rfl) ?_
    refine lv_iconst (v := 0) hx hb dX8_there_1 (by decide) ?_
    refine lv_bipush (v := 19) hx hb dX8_there_2 (by decide) ?_
    obtain ⟨v1001, h1002, he⟩ := bn1_i he
    refine cSi (rest := []) ⟨hx, hb, hml, hown, hts⟩ hK hA hP hD hS (mX8_in l D k h1002) (cwS 3 hts gX8_there_X8_in rfl rfl rfl kX8_in ⟨Nat.le_of_ble_eq_true rfl, Nat.le_of_ble_eq_true rfl⟩) rfl hl.1 rfl (Nat.le_of_ble_eq_true rfl) ⟨Nat.le_refl 0, Nat.le_refl 0⟩ dX8_there_4 (fun H locs hP hD hS => ?_)
    refine lv_if_ne (tgt := 15) hx hb dX8_there_7 (by decide) (fun c1003 => ?_) (fun c1003 => ?_)
    · have he := ifn he c1003
      refine lv_aload_n hx hb dX8_there_15 rfl (lv_at hl 0 rfl) ?_
      refine lv_iload_n hx hb dX8_there_16 rfl (lv_at hl 1 rfl) ?_
      obtain ⟨v1004, h1005, he⟩ := bn1_i he
      refine cVir (As := [.int p1]) (rest := []) ⟨hx, hb, hml, hown, hts⟩ hK hA hP hD hS (mX8_isThing l D k g (s := s) (im := im) (fr := fr) (hd := hd) (nw := nw) (hh := hh) (qs := qs) (qz := qz) (it := it) (th := th) (hm := hm) (ow := ow) (lo := lo) h1005) (cwV 1 hts gX8_there_X8_isThing rfl rfl rfl kX8_isThing ⟨Nat.le_of_ble_eq_true rfl, Nat.le_of_ble_eq_true rfl⟩) [0, 1, 2, 3, 4, 5, 6, 7, 8, 9] rfl rfl 0 rfl rfl rfl hl.1 rfl (Nat.le_of_ble_eq_true rfl) ⟨Nat.le_refl 0, Nat.le_refl 0⟩ dX8_there_17 (fun H locs hP hD hS => ?_)
      refine lv_if_eq (tgt := 27) hx hb dX8_there_20 (by decide) (fun c1006 => ?_) (fun c1006 => ?_)
      · have he := ifp he c1006
        refine lv_bipush (v := (-11)) hx hb dX8_there_27 (by decide) ?_
        obtain rfl := some1 he
        exact cRi hx hb hr hlk hK rfl hP hD hS dX8_there_29
      · have he := ifn he c1006
        refine lv_iconst (v := 0) hx hb dX8_there_23 (by decide) ?_
        refine lv_goto (tgt := 29) hx hb dX8_there_24 (by decide) ?_
        obtain rfl := some1 he
        exact cRi hx hb hr hlk hK rfl hP hD hS dX8_there_29
    · have he := ifp he c1003
      refine lv_bipush (v := (-12)) hx hb dX8_there_10 (by decide) ?_
      refine lv_goto (tgt := 29) hx hb dX8_there_12 (by decide) ?_
      obtain rfl := some1 he
      exact cRi hx hb hr hlk hK rfl hP hD hS dX8_there_29
  exact key ss.heap [] rfl rfl hP hS
theorem kX8_asked : yX8_asked.cls = RX8 ∧ yX8_asked.cls ≠ "java/lang/invoke/MethodHandle" ∧ yX8_asked.cls ≠ "java/lang/invoke/VarHandle" ∧ (parseMethodDescriptor yX8_asked.desc).map (fun d => d.parameters.length) = some 2 := by decide +kernel
set_option maxRecDepth 100000 in
set_option maxHeartbeats 4000000 in
theorem mX8_asked (l : Launch) (D : va_G) (k : Nat → ClassId) (g : Nat → Nat) {s : Nat → Int32} {im : Nat → Int32} {fr : Nat → Int32} {hd : Nat → Int32} {nw : Nat → Int32} {hh : Nat → Int32} {qs : Nat → Int32} {qz : Nat → Int32} {it : Nat → Int64} {th : Int32} {hm : Int32} {ow : Int32} {lo : Int32} {p1 : Int32} {p2 : Int32} {r : Int32}  (he : xX8_asked s p1 p2 = some r) : CtI l D k yX8_asked wsX8_asked ({ frames := 3, cells := 0, slots := 0, locals := 64 } : Room) [.ref (g 0), .int p1, .int p2] (wModel k g s im fr hd nw hh qs qz it th hm ow lo) r (wModel k g s im fr hd nw hh qs qz it th hm ow lo) := by
  intro sz9
  refine cSt (lv := [(0, .ref (g 0)), (1, .int p1), (2, .int p2)]) (own := RX8) (cc := cX8_asked) (nL := 4) (ret := (some .int)) (by decide +kernel) rfl rfl (Nat.le_of_ble_eq_true rfl) rfl ?_
  intro pp ee ss mm bl me co hsz hC0 hP hD hS ls hl
  subst hsz
  obtain ⟨hx, hb, hr, hml, hown, hts, hK, hlk⟩ := hC0
  have hA : ∀ q, ss.heap.size ≤ q → va_A (wModel k g s im fr hd nw hh qs qz it th hm ow lo) ss.heap.size q := fun q h => Or.inr h
  have iX8 : ∀ w ∈ wsX80, w ∈ wsX8_asked := fun _ h => List.mem_cons_of_mem _ (List.mem_append_right _ h)
  have w1 := hts (.fieldLink RX8 7 "DeadListPoolModel" "s" "[I") (List.mem_of_getElem? (i := 1) rfl)
  have hS0 := hS
  have key : ∀ (H : Heap) (locs : List Loc), H = ss.heap → locs = [] → va_P D vwCl (wModel k g s im fr hd nw hh qs qz it th hm ow lo) H → va_S (va_A (wModel k g s im fr hd nw hh qs qz it th hm ow lo) ss.heap.size) ss.heap H locs → W pp l ee ({ frames := 3, cells := 0, slots := 0, locals := 64 } : Room) ss mm ([.ref (g 0), .int p1, .int p2] : List Value).toArray bl me co H locs 0 0 (MQ bl (cQi D k (wModel k g s im fr hd nw hh qs qz it th hm ow lo) ss.heap.size r (wModel k g s im fr hd nw hh qs qz it th hm ow lo)) ([.ref (g 0), .int p1, .int p2] : List Value).toArray ss 0 0 (va_A (wModel k g s im fr hd nw hh qs qz it th hm ow lo) ss.heap.size)) (F0 mm 0 ls []) := by
    intro H locs _ _ hP hS
    refine lv_aload_n hx hb dX8_asked_0 rfl (lv_at hl 0 rfl) ?_
    refine lv_iload_n hx hb dX8_asked_1 rfl (lv_at hl 1 rfl) ?_
    obtain ⟨v1001, h1002, he⟩ := bn1_i he
    refine cVir (As := [.int p1]) (rest := []) ⟨hx, hb, hml, hown, hts⟩ hK hA hP hD hS (mX8_there l D k g (s := s) (im := im) (fr := fr) (hd := hd) (nw := nw) (hh := hh) (qs := qs) (qz := qz) (it := it) (th := th) (hm := hm) (ow := ow) (lo := lo) h1002) (cwV 1 hts gX8_asked_X8_there rfl rfl rfl kX8_there ⟨Nat.le_of_ble_eq_true rfl, Nat.le_of_ble_eq_true rfl⟩) [0, 1, 2, 3, 4, 5, 6, 7, 8, 9] rfl rfl 0 rfl rfl rfl hl.1 rfl (Nat.le_of_ble_eq_true rfl) ⟨Nat.le_refl 0, Nat.le_refl 0⟩ dX8_asked_2 (fun H locs hP hD hS => ?_)
    refine lv_istore_n (lv' := [(3, .int v1001), (0, .ref (g 0)), (1, .int p1), (2, .int p2)]) hx hb dX8_asked_5 rfl hl (by decide) rfl (fun ls hl => ?_)
    refine lv_iload_n hx hb dX8_asked_6 rfl (lv_at hl 0 rfl) ?_
    refine lv_if_eq (tgt := 14) hx hb dX8_asked_7 (by decide) (fun c1003 => ?_) (fun c1003 => ?_)
    · have he := ifp he c1003
      refine lv_aload_n hx hb dX8_asked_14 rfl (lv_at hl 1 rfl) ?_
      refine va_get (D := D) (ci := 8) (v := .ref (g 1)) (C := RX8) (T := TX8) (N := 13) hx hb hts iX8 hown hK hP 0 rfl rfl 1 (by decide) w1 (fun _ h9 => h9) rfl dX8_asked_15 ?_
      refine lv_iconst (v := 2) hx hb dX8_asked_18 (by decide) ?_
      refine lv_iload_n hx hb dX8_asked_19 rfl (lv_at hl 2 rfl) ?_
      refine lv_iadd hx hb dX8_asked_20 ?_
      obtain ⟨h1004, he⟩ := grd_i he
      refine va_iald hx hb hK hP 1 0 rfl rfl (ix_in h1004) dX8_asked_21 ?_
      refine lv_iload_n hx hb dX8_asked_22 rfl (lv_at hl 3 rfl) ?_
      obtain ⟨v1005, h1006, he⟩ := bn1_i he
      refine cSi (rest := []) ⟨hx, hb, hml, hown, hts⟩ hK hA hP hD hS (mX8_isUnder l D k h1006) (cwS 2 hts gX8_asked_X8_isUnder rfl rfl rfl kX8_isUnder ⟨Nat.le_of_ble_eq_true rfl, Nat.le_of_ble_eq_true rfl⟩) rfl hl.1 rfl (Nat.le_of_ble_eq_true rfl) ⟨Nat.le_refl 0, Nat.le_refl 0⟩ dX8_asked_23 (fun H locs hP hD hS => ?_)
      refine lv_if_eq (tgt := 33) hx hb dX8_asked_26 (by decide) (fun c1007 => ?_) (fun c1007 => ?_)
      · have he := ifp he c1007
        refine lv_bipush (v := (-13)) hx hb dX8_asked_33 (by decide) ?_
        obtain rfl := some1 he
        exact cRi hx hb hr hlk hK rfl hP hD hS dX8_asked_35
      · have he := ifn he c1007
        refine lv_iconst (v := 0) hx hb dX8_asked_29 (by decide) ?_
        refine lv_goto (tgt := 35) hx hb dX8_asked_30 (by decide) ?_
        obtain rfl := some1 he
        exact cRi hx hb hr hlk hK rfl hP hD hS dX8_asked_35
    · have he := ifn he c1003
      refine lv_iload_n hx hb dX8_asked_10 rfl (lv_at hl 0 rfl) ?_
      refine lv_goto (tgt := 35) hx hb dX8_asked_11 (by decide) ?_
      obtain rfl := some1 he
      exact cRi hx hb hr hlk hK rfl hP hD hS dX8_asked_35
  exact key ss.heap [] rfl rfl hP hS
theorem kX8_askedSlots : yX8_askedSlots.cls = RX8 ∧ yX8_askedSlots.cls ≠ "java/lang/invoke/MethodHandle" ∧ yX8_askedSlots.cls ≠ "java/lang/invoke/VarHandle" ∧ (parseMethodDescriptor yX8_askedSlots.desc).map (fun d => d.parameters.length) = some 1 := by decide +kernel
set_option maxRecDepth 100000 in
set_option maxHeartbeats 4000000 in
theorem mX8_askedSlots (l : Launch) (D : va_G) (k : Nat → ClassId) (g : Nat → Nat) {s : Nat → Int32} {im : Nat → Int32} {fr : Nat → Int32} {hd : Nat → Int32} {nw : Nat → Int32} {hh : Nat → Int32} {qs : Nat → Int32} {qz : Nat → Int32} {it : Nat → Int64} {th : Int32} {hm : Int32} {ow : Int32} {lo : Int32} {p1 : Int32} {r : Int32}  (he : xX8_askedSlots s p1 = some r) : CtI l D k yX8_askedSlots wsX8_askedSlots ({ frames := 4, cells := 0, slots := 0, locals := 85 } : Room) [.ref (g 0), .int p1] (wModel k g s im fr hd nw hh qs qz it th hm ow lo) r (wModel k g s im fr hd nw hh qs qz it th hm ow lo) := by
  intro sz9
  refine cSt (lv := [(0, .ref (g 0)), (1, .int p1)]) (own := RX8) (cc := cX8_askedSlots) (nL := 3) (ret := (some .int)) (by decide +kernel) rfl rfl (Nat.le_of_ble_eq_true rfl) rfl ?_
  intro pp ee ss mm bl me co hsz hC0 hP hD hS ls hl
  subst hsz
  obtain ⟨hx, hb, hr, hml, hown, hts, hK, hlk⟩ := hC0
  have hA : ∀ q, ss.heap.size ≤ q → va_A (wModel k g s im fr hd nw hh qs qz it th hm ow lo) ss.heap.size q := fun q h => Or.inr h
  have hS0 := hS
  have key : ∀ (H : Heap) (locs : List Loc), H = ss.heap → locs = [] → va_P D vwCl (wModel k g s im fr hd nw hh qs qz it th hm ow lo) H → va_S (va_A (wModel k g s im fr hd nw hh qs qz it th hm ow lo) ss.heap.size) ss.heap H locs → W pp l ee ({ frames := 4, cells := 0, slots := 0, locals := 85 } : Room) ss mm ([.ref (g 0), .int p1] : List Value).toArray bl me co H locs 0 0 (MQ bl (cQi D k (wModel k g s im fr hd nw hh qs qz it th hm ow lo) ss.heap.size r (wModel k g s im fr hd nw hh qs qz it th hm ow lo)) ([.ref (g 0), .int p1] : List Value).toArray ss 0 0 (va_A (wModel k g s im fr hd nw hh qs qz it th hm ow lo) ss.heap.size)) (F0 mm 0 ls []) := by
    intro H locs _ _ hP hS
    refine lv_aload_n hx hb dX8_askedSlots_0 rfl (lv_at hl 0 rfl) ?_
    refine lv_iload_n hx hb dX8_askedSlots_1 rfl (lv_at hl 1 rfl) ?_
    obtain ⟨v1001, h1002, he⟩ := bn1_i he
    refine cVir (As := [.int p1]) (rest := []) ⟨hx, hb, hml, hown, hts⟩ hK hA hP hD hS (mX8_there l D k g (s := s) (im := im) (fr := fr) (hd := hd) (nw := nw) (hh := hh) (qs := qs) (qz := qz) (it := it) (th := th) (hm := hm) (ow := ow) (lo := lo) h1002) (cwV 1 hts gX8_askedSlots_X8_there rfl rfl rfl kX8_there ⟨Nat.le_of_ble_eq_true rfl, Nat.le_of_ble_eq_true rfl⟩) [0, 1, 2, 3, 4, 5, 6, 7, 8, 9] rfl rfl 0 rfl rfl rfl hl.1 rfl (Nat.le_of_ble_eq_true rfl) ⟨Nat.le_refl 0, Nat.le_refl 0⟩ dX8_askedSlots_2 (fun H locs hP hD hS => ?_)
    refine lv_istore_n (lv' := [(2, .int v1001), (0, .ref (g 0)), (1, .int p1)]) hx hb dX8_askedSlots_5 rfl hl (by decide) rfl (fun ls hl => ?_)
    refine lv_iload_n hx hb dX8_askedSlots_6 rfl (lv_at hl 0 rfl) ?_
    refine lv_if_eq (tgt := 14) hx hb dX8_askedSlots_7 (by decide) (fun c1003 => ?_) (fun c1003 => ?_)
    · have he := ifp he c1003
      refine lv_aload_n hx hb dX8_askedSlots_14 rfl (lv_at hl 1 rfl) ?_
      refine lv_iload_n hx hb dX8_askedSlots_15 rfl (lv_at hl 2 rfl) ?_
      obtain ⟨v1004, h1005, he⟩ := bn1_i he
      refine cVir (As := [.int p1]) (rest := []) ⟨hx, hb, hml, hown, hts⟩ hK hA hP hD hS (mX8_hasSlots l D k g (s := s) (im := im) (fr := fr) (hd := hd) (nw := nw) (hh := hh) (qs := qs) (qz := qz) (it := it) (th := th) (hm := hm) (ow := ow) (lo := lo) h1005) (cwV 1 hts gX8_askedSlots_X8_hasSlots rfl rfl rfl kX8_hasSlots ⟨Nat.le_of_ble_eq_true rfl, Nat.le_of_ble_eq_true rfl⟩) [0, 1, 2, 3, 4, 5, 6, 7, 8, 9] rfl rfl 0 rfl rfl rfl hl.1 rfl (Nat.le_of_ble_eq_true rfl) ⟨Nat.le_refl 0, Nat.le_refl 0⟩ dX8_askedSlots_16 (fun H locs hP hD hS => ?_)
      refine lv_if_eq (tgt := 26) hx hb dX8_askedSlots_19 (by decide) (fun c1006 => ?_) (fun c1006 => ?_)
      · have he := ifp he c1006
        refine lv_bipush (v := (-13)) hx hb dX8_askedSlots_26 (by decide) ?_
        obtain rfl := some1 he
        exact cRi hx hb hr hlk hK rfl hP hD hS dX8_askedSlots_28
      · have he := ifn he c1006
        refine lv_iconst (v := 0) hx hb dX8_askedSlots_22 (by decide) ?_
        refine lv_goto (tgt := 28) hx hb dX8_askedSlots_23 (by decide) ?_
        obtain rfl := some1 he
        exact cRi hx hb hr hlk hK rfl hP hD hS dX8_askedSlots_28
    · have he := ifn he c1003
      refine lv_iload_n hx hb dX8_askedSlots_10 rfl (lv_at hl 0 rfl) ?_
      refine lv_goto (tgt := 28) hx hb dX8_askedSlots_11 (by decide) ?_
      obtain rfl := some1 he
      exact cRi hx hb hr hlk hK rfl hP hD hS dX8_askedSlots_28
  exact key ss.heap [] rfl rfl hP hS
theorem kX8_counts : yX8_counts.cls = RX8 ∧ yX8_counts.cls ≠ "java/lang/invoke/MethodHandle" ∧ yX8_counts.cls ≠ "java/lang/invoke/VarHandle" ∧ (parseMethodDescriptor yX8_counts.desc).map (fun d => d.parameters.length) = some 0 := by decide +kernel
set_option maxRecDepth 100000 in
set_option maxHeartbeats 4000000 in
theorem mX8_counts (l : Launch) (D : va_G) (k : Nat → ClassId) (g : Nat → Nat) {s : Nat → Int32} {im : Nat → Int32} {fr : Nat → Int32} {hd_0 : Nat → Int32} {nw : Nat → Int32} {hh : Nat → Int32} {qs : Nat → Int32} {qz : Nat → Int32} {it : Nat → Int64} {th : Int32} {hm : Int32} {ow : Int32} {lo : Int32}  {hd' : Nat → Int32} (he : xX8_counts s hd_0 = some hd') : CtV l D k yX8_counts wsX8_counts ({ frames := 4, cells := 0, slots := 0, locals := 85 } : Room) [.ref (g 0)] (wModel k g s im fr hd_0 nw hh qs qz it th hm ow lo) (wModel k g s im fr hd' nw hh qs qz it th hm ow lo) := by
  intro sz9
  refine cSt (lv := [(0, .ref (g 0))]) (own := RX8) (cc := cX8_counts) (nL := 4) (ret := none) (by decide +kernel) rfl rfl (Nat.le_of_ble_eq_true rfl) rfl ?_
  intro pp ee ss mm bl me co hsz hC0 hP hD hS ls hl
  subst hsz
  obtain ⟨hx, hb, hr, hml, hown, hts, hK, hlk⟩ := hC0
  have hA : ∀ q, ss.heap.size ≤ q → va_A (wModel k g s im fr hd_0 nw hh qs qz it th hm ow lo) ss.heap.size q := fun q h => Or.inr h
  have iX8 : ∀ w ∈ wsX80, w ∈ wsX8_counts := fun _ h => List.mem_cons_of_mem _ (List.mem_append_right _ h)
  have w2 := hts (.fieldLink RX8 7 "DeadListPoolModel" "s" "[I") (List.mem_of_getElem? (i := 2) rfl)
  have w1 := hts (.fieldLink RX8 19 "DeadListPoolModel" "holds" "[I") (List.mem_of_getElem? (i := 1) rfl)
  have B23 : ∀ (n23 : Nat) (x1 : Int32) (hd : Nat → Int32), xX8_counts_23 s n23 x1 hd = some hd' → ∀ (H : Heap) (locs : List Loc), va_P D vwCl (wModel k g s im fr hd nw hh qs qz it th hm ow lo) H → va_D (va_A (wModel k g s im fr hd_0 nw hh qs qz it th hm ow lo) ss.heap.size) (wModel k g s im fr hd nw hh qs qz it th hm ow lo) → va_S (va_A (wModel k g s im fr hd_0 nw hh qs qz it th hm ow lo) ss.heap.size) ss.heap H locs → ∀ ls : Array Slot, lv_has ls 4 [(0, .ref (g 0)), (1, .int x1)] → W pp l ee ({ frames := 4, cells := 0, slots := 0, locals := 85 } : Room) ss mm ([.ref (g 0)] : List Value).toArray bl me co H locs 0 0 (MQ bl (cQv D k (wModel k g s im fr hd_0 nw hh qs qz it th hm ow lo) ss.heap.size (wModel k g s im fr hd' nw hh qs qz it th hm ow lo)) ([.ref (g 0)] : List Value).toArray ss 0 0 (va_A (wModel k g s im fr hd_0 nw hh qs qz it th hm ow lo) ss.heap.size)) (F0 mm 23 ls []) := by
    intro n23
    induction n23 with
    | zero =>
      intro x1 hd he
      exact absurd (show (none : Option ((Nat → Int32))) = some hd' from he) (by simp)
    | succ n23 ih23 =>
      have B31 : ∀ (n31 : Nat) (x1 : Int32) (x2 : Int32) (hd : Nat → Int32), xX8_counts_31 s (xX8_counts_23 s n23) n31 x1 x2 hd = some hd' → ∀ (H : Heap) (locs : List Loc), va_P D vwCl (wModel k g s im fr hd nw hh qs qz it th hm ow lo) H → va_D (va_A (wModel k g s im fr hd_0 nw hh qs qz it th hm ow lo) ss.heap.size) (wModel k g s im fr hd nw hh qs qz it th hm ow lo) → va_S (va_A (wModel k g s im fr hd_0 nw hh qs qz it th hm ow lo) ss.heap.size) ss.heap H locs → ∀ ls : Array Slot, lv_has ls 4 [(0, .ref (g 0)), (1, .int x1), (2, .int x2)] → W pp l ee ({ frames := 4, cells := 0, slots := 0, locals := 85 } : Room) ss mm ([.ref (g 0)] : List Value).toArray bl me co H locs 0 0 (MQ bl (cQv D k (wModel k g s im fr hd_0 nw hh qs qz it th hm ow lo) ss.heap.size (wModel k g s im fr hd' nw hh qs qz it th hm ow lo)) ([.ref (g 0)] : List Value).toArray ss 0 0 (va_A (wModel k g s im fr hd_0 nw hh qs qz it th hm ow lo) ss.heap.size)) (F0 mm 31 ls []) := by
        intro n31
        induction n31 with
        | zero =>
          intro x1 x2 hd he
          exact absurd (show (none : Option ((Nat → Int32))) = some hd' from he) (by simp)
        | succ n31 ih31 =>
          intro x1 x2 hd he H locs hP hD hS ls hl
          refine lv_iload_n hx hb dX8_counts_31 rfl (lv_at hl 2 rfl) ?_
          refine lv_bipush (v := 12) hx hb dX8_counts_32 (by decide) ?_
          refine lv_icmp_ge (tgt := 81) hx hb dX8_counts_34 (by decide) (fun c1 => ?_) (fun c1 => ?_)
          · have he := ifp he c1
            refine lv_iinc (v := (x1 + 1)) (lv' := [(1, .int (x1 + 1)), (0, .ref (g 0)), (2, .int x2)]) hx hb dX8_counts_81 hl (k := 1) rfl rfl (by decide) rfl (fun ls hl => ?_)
            refine lv_goto (tgt := 23) hx hb dX8_counts_84 (by decide) ?_
            exact ih23 (x1 + 1) hd he H locs hP hD hS ls (lv_sub hl [1, 0] rfl)
          · have he := ifn he c1
            refine lv_aload_n hx hb dX8_counts_37 rfl (lv_at hl 0 rfl) ?_
            refine lv_iload_n hx hb dX8_counts_38 rfl (lv_at hl 1 rfl) ?_
            obtain ⟨v2, h3, he⟩ := bn1_i he
            refine cVir (As := [.int x1]) (rest := []) ⟨hx, hb, hml, hown, hts⟩ hK hA hP hD hS (mX8_hasSlots l D k g (s := s) (im := im) (fr := fr) (hd := hd) (nw := nw) (hh := hh) (qs := qs) (qz := qz) (it := it) (th := th) (hm := hm) (ow := ow) (lo := lo) h3) (cwV 1 hts gX8_counts_X8_hasSlots rfl rfl rfl kX8_hasSlots ⟨Nat.le_of_ble_eq_true rfl, Nat.le_of_ble_eq_true rfl⟩) [0, 1, 2, 3, 4, 5, 6, 7, 8, 9] rfl rfl 0 rfl rfl rfl hl.1 rfl (Nat.le_of_ble_eq_true rfl) ⟨Nat.le_refl 0, Nat.le_refl 0⟩ dX8_counts_39 (fun H locs hP hD hS => ?_)
            refine lv_if_eq (tgt := 81) hx hb dX8_counts_42 (by decide) (fun c4 => ?_) (fun c4 => ?_)
            · have he := ifp he c4
              refine lv_iinc (v := (x1 + 1)) (lv' := [(1, .int (x1 + 1)), (0, .ref (g 0)), (2, .int x2)]) hx hb dX8_counts_81 hl (k := 1) rfl rfl (by decide) rfl (fun ls hl => ?_)
              refine lv_goto (tgt := 23) hx hb dX8_counts_84 (by decide) ?_
              exact ih23 (x1 + 1) hd he H locs hP hD hS ls (lv_sub hl [1, 0] rfl)
            · have he := ifn he c4
              refine lv_aload_n hx hb dX8_counts_45 rfl (lv_at hl 0 rfl) ?_
              refine va_get (D := D) (ci := 8) (v := .ref (g 1)) (C := RX8) (T := TX8) (N := 13) hx hb hts iX8 hown hK hP 0 rfl rfl 1 (by decide) w2 (fun _ h9 => h9) rfl dX8_counts_46 ?_
              refine lv_bipush (v := 122) hx hb dX8_counts_49 (by decide) ?_
              refine lv_bipush (v := 12) hx hb dX8_counts_51 (by decide) ?_
              refine lv_iload_n hx hb dX8_counts_53 rfl (lv_at hl 1 rfl) ?_
              refine lv_imul hx hb dX8_counts_54 ?_
              refine lv_iadd hx hb dX8_counts_55 ?_
              refine lv_iload_n hx hb dX8_counts_56 rfl (lv_at hl 2 rfl) ?_
              refine lv_iadd hx hb dX8_counts_57 ?_
              obtain ⟨h5, he⟩ := grd_i he
              refine va_iald hx hb hK hP 1 0 rfl rfl (ix_in h5) dX8_counts_58 ?_
              refine lv_istore_n (lv' := [(3, .int (s (Int32.toNatClampNeg ((122 + (12 * x1)) + x2)))), (0, .ref (g 0)), (1, .int x1), (2, .int x2)]) hx hb dX8_counts_59 rfl hl (by decide) rfl (fun ls hl => ?_)
              refine lv_iload_n hx hb dX8_counts_60 rfl (lv_at hl 0 rfl) ?_
              refine lv_iconst (v := (-1)) hx hb dX8_counts_61 (by decide) ?_
              refine lv_icmp_eq (tgt := 75) hx hb dX8_counts_62 (by decide) (fun c6 => ?_) (fun c6 => ?_)
              · have he := ifp he c6
                refine lv_iinc (v := (x2 + 1)) (lv' := [(2, .int (x2 + 1)), (3, .int (s (Int32.toNatClampNeg ((122 + (12 * x1)) + x2)))), (0, .ref (g 0)), (1, .int x1)]) hx hb dX8_counts_75 hl (k := 3) rfl rfl (by decide) rfl (fun ls hl => ?_)
                refine lv_goto (tgt := 31) hx hb dX8_counts_78 (by decide) ?_
                exact ih31 x1 (x2 + 1) hd he H locs hP hD hS ls (lv_sub hl [2, 3, 0] rfl)
              · have he := ifn he c6
                refine lv_aload_n hx hb dX8_counts_65 rfl (lv_at hl 1 rfl) ?_
                refine va_get (D := D) (ci := 8) (v := .ref (g 4)) (C := RX8) (T := TX8) (N := 13) hx hb hts iX8 hown hK hP 0 rfl rfl 5 (by decide) w1 (fun _ h9 => h9) rfl dX8_counts_66 ?_
                refine lv_iload_n hx hb dX8_counts_69 rfl (lv_at hl 0 rfl) ?_
                refine lv_dup2_11 hx hb dX8_counts_70 rfl rfl ?_
                obtain ⟨h7, he⟩ := grd_i he
                refine va_iald hx hb hK hP 4 0 rfl rfl (ix_in h7) dX8_counts_71 ?_
                refine lv_iconst (v := 1) hx hb dX8_counts_72 (by decide) ?_
                refine lv_iadd hx hb dX8_counts_73 ?_
                obtain ⟨h8, he⟩ := grd_i he
                obtain ⟨hd9, e10, he⟩ := lt_i he
                refine va_iast hx hb hK hP hD hS 4 0 rfl rfl (ix_in h8) dX8_counts_74 (fun H locs hP hD hS => ?_)
                have hP : va_P D vwCl (wModel k g s im fr hd9 nw hh qs qz it th hm ow lo) H := by rw [e10]; exact hP
                have hD : va_D _ (wModel k g s im fr hd9 nw hh qs qz it th hm ow lo) := va_D_adr (by rw [e10]; rfl) hD
                refine lv_iinc (v := (x2 + 1)) (lv' := [(2, .int (x2 + 1)), (3, .int (s (Int32.toNatClampNeg ((122 + (12 * x1)) + x2)))), (0, .ref (g 0)), (1, .int x1)]) hx hb dX8_counts_75 hl (k := 3) rfl rfl (by decide) rfl (fun ls hl => ?_)
                refine lv_goto (tgt := 31) hx hb dX8_counts_78 (by decide) ?_
                exact ih31 x1 (x2 + 1) hd9 he H locs hP hD hS ls (lv_sub hl [2, 3, 0] rfl)
      intro x1 hd he H locs hP hD hS ls hl
      refine lv_iload_n hx hb dX8_counts_23 rfl (lv_at hl 1 rfl) ?_
      refine lv_bipush (v := 20) hx hb dX8_counts_24 (by decide) ?_
      refine lv_icmp_ge (tgt := 87) hx hb dX8_counts_26 (by decide) (fun c11 => ?_) (fun c11 => ?_)
      · have he := ifp he c11
        obtain rfl := some1 he
        exact cRv hx hb hr hlk hK hP hD hS dX8_counts_87
      · have he := ifn he c11
        refine lv_iconst (v := 0) hx hb dX8_counts_29 (by decide) ?_
        refine lv_istore_n (lv' := [(2, .int 0), (0, .ref (g 0)), (1, .int x1)]) hx hb dX8_counts_30 rfl hl (by decide) rfl (fun ls hl => ?_)
        exact B31 600 x1 0 hd he H locs hP hD hS ls (lv_sub hl [1, 2, 0] rfl)
  have B2 : ∀ (n2 : Nat) (x1 : Int32) (hd : Nat → Int32), xX8_counts_2 s n2 x1 hd = some hd' → ∀ (H : Heap) (locs : List Loc), va_P D vwCl (wModel k g s im fr hd nw hh qs qz it th hm ow lo) H → va_D (va_A (wModel k g s im fr hd_0 nw hh qs qz it th hm ow lo) ss.heap.size) (wModel k g s im fr hd nw hh qs qz it th hm ow lo) → va_S (va_A (wModel k g s im fr hd_0 nw hh qs qz it th hm ow lo) ss.heap.size) ss.heap H locs → ∀ ls : Array Slot, lv_has ls 4 [(0, .ref (g 0)), (1, .int x1)] → W pp l ee ({ frames := 4, cells := 0, slots := 0, locals := 85 } : Room) ss mm ([.ref (g 0)] : List Value).toArray bl me co H locs 0 0 (MQ bl (cQv D k (wModel k g s im fr hd_0 nw hh qs qz it th hm ow lo) ss.heap.size (wModel k g s im fr hd' nw hh qs qz it th hm ow lo)) ([.ref (g 0)] : List Value).toArray ss 0 0 (va_A (wModel k g s im fr hd_0 nw hh qs qz it th hm ow lo) ss.heap.size)) (F0 mm 2 ls []) := by
    intro n2
    induction n2 with
    | zero =>
      intro x1 hd he
      exact absurd (show (none : Option ((Nat → Int32))) = some hd' from he) (by simp)
    | succ n2 ih2 =>
      intro x1 hd he H locs hP hD hS ls hl
      refine lv_iload_n hx hb dX8_counts_2 rfl (lv_at hl 1 rfl) ?_
      refine lv_bipush (v := 96) hx hb dX8_counts_3 (by decide) ?_
      refine lv_icmp_ge (tgt := 21) hx hb dX8_counts_5 (by decide) (fun c12 => ?_) (fun c12 => ?_)
      · have he := ifp he c12
        refine lv_iconst (v := 0) hx hb dX8_counts_21 (by decide) ?_
        refine lv_istore_n (lv' := [(1, .int 0), (0, .ref (g 0))]) hx hb dX8_counts_22 rfl hl (by decide) rfl (fun ls hl => ?_)
        exact B23 600 0 hd he H locs hP hD hS ls (lv_sub hl [1, 0] rfl)
      · have he := ifn he c12
        refine lv_aload_n hx hb dX8_counts_8 rfl (lv_at hl 0 rfl) ?_
        refine va_get (D := D) (ci := 8) (v := .ref (g 4)) (C := RX8) (T := TX8) (N := 13) hx hb hts iX8 hown hK hP 0 rfl rfl 5 (by decide) w1 (fun _ h9 => h9) rfl dX8_counts_9 ?_
        refine lv_iload_n hx hb dX8_counts_12 rfl (lv_at hl 1 rfl) ?_
        refine lv_iconst (v := 0) hx hb dX8_counts_13 (by decide) ?_
        obtain ⟨h13, he⟩ := grd_i he
        obtain ⟨hd14, e15, he⟩ := lt_i he
        refine va_iast hx hb hK hP hD hS 4 0 rfl rfl (ix_in h13) dX8_counts_14 (fun H locs hP hD hS => ?_)
        have hP : va_P D vwCl (wModel k g s im fr hd14 nw hh qs qz it th hm ow lo) H := by rw [e15]; exact hP
        have hD : va_D _ (wModel k g s im fr hd14 nw hh qs qz it th hm ow lo) := va_D_adr (by rw [e15]; rfl) hD
        refine lv_iinc (v := (x1 + 1)) (lv' := [(1, .int (x1 + 1)), (0, .ref (g 0))]) hx hb dX8_counts_15 hl (k := 1) rfl rfl (by decide) rfl (fun ls hl => ?_)
        refine lv_goto (tgt := 2) hx hb dX8_counts_18 (by decide) ?_
        exact ih2 (x1 + 1) hd14 he H locs hP hD hS ls (lv_sub hl [1, 0] rfl)
  have hS0 := hS
  have key : ∀ (H : Heap) (locs : List Loc), H = ss.heap → locs = [] → va_P D vwCl (wModel k g s im fr hd_0 nw hh qs qz it th hm ow lo) H → va_S (va_A (wModel k g s im fr hd_0 nw hh qs qz it th hm ow lo) ss.heap.size) ss.heap H locs → W pp l ee ({ frames := 4, cells := 0, slots := 0, locals := 85 } : Room) ss mm ([.ref (g 0)] : List Value).toArray bl me co H locs 0 0 (MQ bl (cQv D k (wModel k g s im fr hd_0 nw hh qs qz it th hm ow lo) ss.heap.size (wModel k g s im fr hd' nw hh qs qz it th hm ow lo)) ([.ref (g 0)] : List Value).toArray ss 0 0 (va_A (wModel k g s im fr hd_0 nw hh qs qz it th hm ow lo) ss.heap.size)) (F0 mm 0 ls []) := by
    intro H locs _ _ hP hS
    refine lv_iconst (v := 0) hx hb dX8_counts_0 (by decide) ?_
    refine lv_istore_n (lv' := [(1, .int 0), (0, .ref (g 0))]) hx hb dX8_counts_1 rfl hl (by decide) rfl (fun ls hl => ?_)
    exact B2 600 0 hd_0 he H locs hP hD hS ls (lv_sub hl [1, 0] rfl)
  exact key ss.heap [] rfl rfl hP hS
theorem kX8_isHeld : yX8_isHeld.cls = RX8 ∧ yX8_isHeld.cls ≠ "java/lang/invoke/MethodHandle" ∧ yX8_isHeld.cls ≠ "java/lang/invoke/VarHandle" ∧ (parseMethodDescriptor yX8_isHeld.desc).map (fun d => d.parameters.length) = some 2 := by decide +kernel
set_option maxRecDepth 100000 in
set_option maxHeartbeats 4000000 in
theorem mX8_isHeld (l : Launch) (D : va_G) (k : Nat → ClassId) (g : Nat → Nat) {s : Nat → Int32} {im : Nat → Int32} {fr : Nat → Int32} {hd : Nat → Int32} {nw : Nat → Int32} {hh : Nat → Int32} {qs : Nat → Int32} {qz : Nat → Int32} {it : Nat → Int64} {th : Int32} {hm : Int32} {ow : Int32} {lo : Int32} {p1 : Int32} {p2 : Int32} {r : Int32}  (he : xX8_isHeld s p1 p2 = some r) : CtI l D k yX8_isHeld wsX8_isHeld ({ frames := 4, cells := 0, slots := 0, locals := 85 } : Room) [.ref (g 0), .int p1, .int p2] (wModel k g s im fr hd nw hh qs qz it th hm ow lo) r (wModel k g s im fr hd nw hh qs qz it th hm ow lo) := by
  intro sz9
  refine cSt (lv := [(0, .ref (g 0)), (1, .int p1), (2, .int p2)]) (own := RX8) (cc := cX8_isHeld) (nL := 5) (ret := (some .boolean)) (by decide +kernel) rfl rfl (Nat.le_of_ble_eq_true rfl) rfl ?_
  intro pp ee ss mm bl me co hsz hC0 hP hD hS ls hl
  subst hsz
  obtain ⟨hx, hb, hr, hml, hown, hts, hK, hlk⟩ := hC0
  have hA : ∀ q, ss.heap.size ≤ q → va_A (wModel k g s im fr hd nw hh qs qz it th hm ow lo) ss.heap.size q := fun q h => Or.inr h
  have iX8 : ∀ w ∈ wsX80, w ∈ wsX8_isHeld := fun _ h => List.mem_cons_of_mem _ (List.mem_append_right _ h)
  have w1 := hts (.fieldLink RX8 7 "DeadListPoolModel" "s" "[I") (List.mem_of_getElem? (i := 1) rfl)
  have B5 : ∀ (n5 : Nat) (x1 : Int32) (x2 : Int32) (x3 : Int32) (x4 : Int32), xX8_isHeld_5 s n5 x1 x2 x3 x4 = some r → ∀ (H : Heap) (locs : List Loc), va_P D vwCl (wModel k g s im fr hd nw hh qs qz it th hm ow lo) H → va_D (va_A (wModel k g s im fr hd nw hh qs qz it th hm ow lo) ss.heap.size) (wModel k g s im fr hd nw hh qs qz it th hm ow lo) → va_S (va_A (wModel k g s im fr hd nw hh qs qz it th hm ow lo) ss.heap.size) ss.heap H locs → ∀ ls : Array Slot, lv_has ls 5 [(0, .ref (g 0)), (1, .int x1), (2, .int x2), (3, .int x3), (4, .int x4)] → W pp l ee ({ frames := 4, cells := 0, slots := 0, locals := 85 } : Room) ss mm ([.ref (g 0), .int p1, .int p2] : List Value).toArray bl me co H locs 0 0 (MQ bl (cQi D k (wModel k g s im fr hd nw hh qs qz it th hm ow lo) ss.heap.size r (wModel k g s im fr hd nw hh qs qz it th hm ow lo)) ([.ref (g 0), .int p1, .int p2] : List Value).toArray ss 0 0 (va_A (wModel k g s im fr hd nw hh qs qz it th hm ow lo) ss.heap.size)) (F0 mm 5 ls []) := by
    intro n5
    induction n5 with
    | zero =>
      intro x1 x2 x3 x4 he
      exact absurd (show (none : Option (Int32)) = some r from he) (by simp)
    | succ n5 ih5 =>
      intro x1 x2 x3 x4 he H locs hP hD hS ls hl
      refine lv_iload hx hb dX8_isHeld_5 (lv_at hl 4 rfl) ?_
      refine lv_bipush (v := 12) hx hb dX8_isHeld_7 (by decide) ?_
      refine lv_icmp_ge (tgt := 55) hx hb dX8_isHeld_9 (by decide) (fun c1 => ?_) (fun c1 => ?_)
      · have he := ifp he c1
        refine lv_iload_n hx hb dX8_isHeld_55 rfl (lv_at hl 3 rfl) ?_
        obtain ⟨h2, he⟩ := grd_i he
        obtain rfl := some1 he
        exact cRi hx hb hr hlk hK (isB_n h2) hP hD hS dX8_isHeld_56
      · have he := ifn he c1
        refine lv_iload_n hx hb dX8_isHeld_12 rfl (lv_at hl 3 rfl) ?_
        refine lv_if_ne (tgt := 43) hx hb dX8_isHeld_13 (by decide) (fun c3 => ?_) (fun c3 => ?_)
        · have he := ifn he c3
          refine lv_iconst (v := 1) hx hb dX8_isHeld_43 (by decide) ?_
          refine lv_goto (tgt := 48) hx hb dX8_isHeld_44 (by decide) ?_
          refine lv_istore_n (lv' := [(3, .int 1), (0, .ref (g 0)), (1, .int x1), (2, .int x2), (4, .int x4)]) hx hb dX8_isHeld_48 rfl hl (by decide) rfl (fun ls hl => ?_)
          refine lv_iinc (v := (x4 + 1)) (lv' := [(4, .int (x4 + 1)), (3, .int 1), (0, .ref (g 0)), (1, .int x1), (2, .int x2)]) hx hb dX8_isHeld_49 hl (k := 4) rfl rfl (by decide) rfl (fun ls hl => ?_)
          refine lv_goto (tgt := 5) hx hb dX8_isHeld_52 (by decide) ?_
          exact ih5 x1 x2 1 (x4 + 1) he H locs hP hD hS ls (lv_sub hl [2, 3, 4, 1, 0] rfl)
        · have he := ifp he c3
          refine lv_aload_n hx hb dX8_isHeld_16 rfl (lv_at hl 0 rfl) ?_
          refine lv_iload_n hx hb dX8_isHeld_17 rfl (lv_at hl 1 rfl) ?_
          obtain ⟨v4, h5, he⟩ := bn1_i he
          refine cVir (As := [.int x1]) (rest := []) ⟨hx, hb, hml, hown, hts⟩ hK hA hP hD hS (mX8_hasSlots l D k g (s := s) (im := im) (fr := fr) (hd := hd) (nw := nw) (hh := hh) (qs := qs) (qz := qz) (it := it) (th := th) (hm := hm) (ow := ow) (lo := lo) h5) (cwV 1 hts gX8_isHeld_X8_hasSlots rfl rfl rfl kX8_hasSlots ⟨Nat.le_of_ble_eq_true rfl, Nat.le_of_ble_eq_true rfl⟩) [0, 1, 2, 3, 4, 5, 6, 7, 8, 9] rfl rfl 0 rfl rfl rfl hl.1 rfl (Nat.le_of_ble_eq_true rfl) ⟨Nat.le_refl 0, Nat.le_refl 0⟩ dX8_isHeld_18 (fun H locs hP hD hS => ?_)
          refine lv_if_eq (tgt := 47) hx hb dX8_isHeld_21 (by decide) (fun c6 => ?_) (fun c6 => ?_)
          · have he := ifp he c6
            refine lv_iconst (v := 0) hx hb dX8_isHeld_47 (by decide) ?_
            refine lv_istore_n (lv' := [(3, .int 0), (0, .ref (g 0)), (1, .int x1), (2, .int x2), (4, .int x4)]) hx hb dX8_isHeld_48 rfl hl (by decide) rfl (fun ls hl => ?_)
            refine lv_iinc (v := (x4 + 1)) (lv' := [(4, .int (x4 + 1)), (3, .int 0), (0, .ref (g 0)), (1, .int x1), (2, .int x2)]) hx hb dX8_isHeld_49 hl (k := 4) rfl rfl (by decide) rfl (fun ls hl => ?_)
            refine lv_goto (tgt := 5) hx hb dX8_isHeld_52 (by decide) ?_
            exact ih5 x1 x2 0 (x4 + 1) he H locs hP hD hS ls (lv_sub hl [2, 3, 4, 1, 0] rfl)
          · have he := ifn he c6
            refine lv_aload_n hx hb dX8_isHeld_24 rfl (lv_at hl 0 rfl) ?_
            refine va_get (D := D) (ci := 8) (v := .ref (g 1)) (C := RX8) (T := TX8) (N := 13) hx hb hts iX8 hown hK hP 0 rfl rfl 1 (by decide) w1 (fun _ h9 => h9) rfl dX8_isHeld_25 ?_
            refine lv_bipush (v := 122) hx hb dX8_isHeld_28 (by decide) ?_
            refine lv_bipush (v := 12) hx hb dX8_isHeld_30 (by decide) ?_
            refine lv_iload_n hx hb dX8_isHeld_32 rfl (lv_at hl 1 rfl) ?_
            refine lv_imul hx hb dX8_isHeld_33 ?_
            refine lv_iadd hx hb dX8_isHeld_34 ?_
            refine lv_iload hx hb dX8_isHeld_35 (lv_at hl 4 rfl) ?_
            refine lv_iadd hx hb dX8_isHeld_37 ?_
            obtain ⟨h7, he⟩ := grd_i he
            refine va_iald hx hb hK hP 1 0 rfl rfl (ix_in h7) dX8_isHeld_38 ?_
            refine lv_iload_n hx hb dX8_isHeld_39 rfl (lv_at hl 2 rfl) ?_
            refine lv_icmp_ne (tgt := 47) hx hb dX8_isHeld_40 (by decide) (fun c8 => ?_) (fun c8 => ?_)
            · have he := ifn he c8
              refine lv_iconst (v := 0) hx hb dX8_isHeld_47 (by decide) ?_
              refine lv_istore_n (lv' := [(3, .int 0), (0, .ref (g 0)), (1, .int x1), (2, .int x2), (4, .int x4)]) hx hb dX8_isHeld_48 rfl hl (by decide) rfl (fun ls hl => ?_)
              refine lv_iinc (v := (x4 + 1)) (lv' := [(4, .int (x4 + 1)), (3, .int 0), (0, .ref (g 0)), (1, .int x1), (2, .int x2)]) hx hb dX8_isHeld_49 hl (k := 4) rfl rfl (by decide) rfl (fun ls hl => ?_)
              refine lv_goto (tgt := 5) hx hb dX8_isHeld_52 (by decide) ?_
              exact ih5 x1 x2 0 (x4 + 1) he H locs hP hD hS ls (lv_sub hl [2, 3, 4, 1, 0] rfl)
            · have he := ifp he c8
              refine lv_iconst (v := 1) hx hb dX8_isHeld_43 (by decide) ?_
              refine lv_goto (tgt := 48) hx hb dX8_isHeld_44 (by decide) ?_
              refine lv_istore_n (lv' := [(3, .int 1), (0, .ref (g 0)), (1, .int x1), (2, .int x2), (4, .int x4)]) hx hb dX8_isHeld_48 rfl hl (by decide) rfl (fun ls hl => ?_)
              refine lv_iinc (v := (x4 + 1)) (lv' := [(4, .int (x4 + 1)), (3, .int 1), (0, .ref (g 0)), (1, .int x1), (2, .int x2)]) hx hb dX8_isHeld_49 hl (k := 4) rfl rfl (by decide) rfl (fun ls hl => ?_)
              refine lv_goto (tgt := 5) hx hb dX8_isHeld_52 (by decide) ?_
              exact ih5 x1 x2 1 (x4 + 1) he H locs hP hD hS ls (lv_sub hl [2, 3, 4, 1, 0] rfl)
  have hS0 := hS
  have key : ∀ (H : Heap) (locs : List Loc), H = ss.heap → locs = [] → va_P D vwCl (wModel k g s im fr hd nw hh qs qz it th hm ow lo) H → va_S (va_A (wModel k g s im fr hd nw hh qs qz it th hm ow lo) ss.heap.size) ss.heap H locs → W pp l ee ({ frames := 4, cells := 0, slots := 0, locals := 85 } : Room) ss mm ([.ref (g 0), .int p1, .int p2] : List Value).toArray bl me co H locs 0 0 (MQ bl (cQi D k (wModel k g s im fr hd nw hh qs qz it th hm ow lo) ss.heap.size r (wModel k g s im fr hd nw hh qs qz it th hm ow lo)) ([.ref (g 0), .int p1, .int p2] : List Value).toArray ss 0 0 (va_A (wModel k g s im fr hd nw hh qs qz it th hm ow lo) ss.heap.size)) (F0 mm 0 ls []) := by
    intro H locs _ _ hP hS
    refine lv_iconst (v := 0) hx hb dX8_isHeld_0 (by decide) ?_
    refine lv_istore_n (lv' := [(3, .int 0), (0, .ref (g 0)), (1, .int p1), (2, .int p2)]) hx hb dX8_isHeld_1 rfl hl (by decide) rfl (fun ls hl => ?_)
    refine lv_iconst (v := 0) hx hb dX8_isHeld_2 (by decide) ?_
    refine lv_istore (lv' := [(4, .int 0), (3, .int 0), (0, .ref (g 0)), (1, .int p1), (2, .int p2)]) hx hb dX8_isHeld_3 hl (by decide) rfl (fun ls hl => ?_)
    exact B5 600 p1 p2 0 0 he H locs hP hD hS ls (lv_sub hl [2, 3, 4, 1, 0] rfl)
  exact key ss.heap [] rfl rfl hP hS
theorem kX8_frees : yX8_frees.cls = RX8 ∧ yX8_frees.cls ≠ "java/lang/invoke/MethodHandle" ∧ yX8_frees.cls ≠ "java/lang/invoke/VarHandle" ∧ (parseMethodDescriptor yX8_frees.desc).map (fun d => d.parameters.length) = some 0 := by decide +kernel
set_option maxRecDepth 100000 in
set_option maxHeartbeats 4000000 in
theorem mX8_frees (l : Launch) (D : va_G) (k : Nat → ClassId) (g : Nat → Nat) {s_0 : Nat → Int32} {im : Nat → Int32} {fr : Nat → Int32} {hd_0 : Nat → Int32} {nw : Nat → Int32} {hh : Nat → Int32} {qs : Nat → Int32} {qz : Nat → Int32} {it : Nat → Int64} {th : Int32} {hm : Int32} {ow : Int32} {lo : Int32}  {r : Int32} {s' : Nat → Int32} {hd' : Nat → Int32} (he : xX8_frees s_0 hd_0 = some (r, s', hd')) : CtI l D k yX8_frees wsX8_frees ({ frames := 5, cells := 0, slots := 0, locals := 108 } : Room) [.ref (g 0)] (wModel k g s_0 im fr hd_0 nw hh qs qz it th hm ow lo) r (wModel k g s' im fr hd' nw hh qs qz it th hm ow lo) := by
  intro sz9
  refine cSt (lv := [(0, .ref (g 0))]) (own := RX8) (cc := cX8_frees) (nL := 3) (ret := (some .int)) (by decide +kernel) rfl rfl (Nat.le_of_ble_eq_true rfl) rfl ?_
  intro pp ee ss mm bl me co hsz hC0 hP hD hS ls hl
  subst hsz
  obtain ⟨hx, hb, hr, hml, hown, hts, hK, hlk⟩ := hC0
  have hA : ∀ q, ss.heap.size ≤ q → va_A (wModel k g s_0 im fr hd_0 nw hh qs qz it th hm ow lo) ss.heap.size q := fun q h => Or.inr h
  have iX8 : ∀ w ∈ wsX80, w ∈ wsX8_frees := fun _ h => List.mem_cons_of_mem _ (List.mem_append_right _ h)
  have w1 := hts (.fieldLink RX8 7 "DeadListPoolModel" "s" "[I") (List.mem_of_getElem? (i := 1) rfl)
  have w2 := hts (.fieldLink RX8 19 "DeadListPoolModel" "holds" "[I") (List.mem_of_getElem? (i := 2) rfl)
  have B8 : ∀ (n8 : Nat) (x1 : Int32) (x2 : Int32) (s : Nat → Int32) (hd : Nat → Int32), xX8_frees_8 n8 x1 x2 s hd = some (r, s', hd') → ∀ (H : Heap) (locs : List Loc), va_P D vwCl (wModel k g s im fr hd nw hh qs qz it th hm ow lo) H → va_D (va_A (wModel k g s_0 im fr hd_0 nw hh qs qz it th hm ow lo) ss.heap.size) (wModel k g s im fr hd nw hh qs qz it th hm ow lo) → va_S (va_A (wModel k g s_0 im fr hd_0 nw hh qs qz it th hm ow lo) ss.heap.size) ss.heap H locs → ∀ ls : Array Slot, lv_has ls 3 [(0, .ref (g 0)), (1, .int x1), (2, .int x2)] → W pp l ee ({ frames := 5, cells := 0, slots := 0, locals := 108 } : Room) ss mm ([.ref (g 0)] : List Value).toArray bl me co H locs 0 0 (MQ bl (cQi D k (wModel k g s_0 im fr hd_0 nw hh qs qz it th hm ow lo) ss.heap.size r (wModel k g s' im fr hd' nw hh qs qz it th hm ow lo)) ([.ref (g 0)] : List Value).toArray ss 0 0 (va_A (wModel k g s_0 im fr hd_0 nw hh qs qz it th hm ow lo) ss.heap.size)) (F0 mm 8 ls []) := by
    intro n8
    induction n8 with
    | zero =>
      intro x1 x2 s hd he
      exact absurd (show (none : Option (Int32 × (Nat → Int32) × (Nat → Int32))) = some (r, s', hd') from he) (by simp)
    | succ n8 ih8 =>
      intro x1 x2 s hd he H locs hP hD hS ls hl
      refine lv_iload_n hx hb dX8_frees_8 rfl (lv_at hl 2 rfl) ?_
      refine lv_bipush (v := 96) hx hb dX8_frees_9 (by decide) ?_
      refine lv_icmp_ge (tgt := 56) hx hb dX8_frees_11 (by decide) (fun c1 => ?_) (fun c1 => ?_)
      · have he := ifp he c1
        refine lv_aload_n hx hb dX8_frees_56 rfl (lv_at hl 0 rfl) ?_
        refine va_get (D := D) (ci := 8) (v := .ref (g 1)) (C := RX8) (T := TX8) (N := 13) hx hb hts iX8 hown hK hP 0 rfl rfl 1 (by decide) w1 (fun _ h9 => h9) rfl dX8_frees_57 ?_
        refine lv_iconst (v := 1) hx hb dX8_frees_60 (by decide) ?_
        refine lv_dup2_11 hx hb dX8_frees_61 rfl rfl ?_
        obtain ⟨h2, he⟩ := grd_i he
        refine va_iald hx hb hK hP 1 0 rfl rfl (ix_in h2) dX8_frees_62 ?_
        refine lv_iload_n hx hb dX8_frees_63 rfl (lv_at hl 1 rfl) ?_
        refine lv_iadd hx hb dX8_frees_64 ?_
        obtain ⟨h3, he⟩ := grd_i he
        obtain ⟨s4, e5, he⟩ := lt_i he
        refine va_iast hx hb hK hP hD hS 1 0 rfl rfl (ix_in h3) dX8_frees_65 (fun H locs hP hD hS => ?_)
        have hP : va_P D vwCl (wModel k g s4 im fr hd nw hh qs qz it th hm ow lo) H := by rw [e5]; exact hP
        have hD : va_D _ (wModel k g s4 im fr hd nw hh qs qz it th hm ow lo) := va_D_adr (by rw [e5]; rfl) hD
        refine lv_iload_n hx hb dX8_frees_66 rfl (lv_at hl 1 rfl) ?_
        obtain ⟨rfl, rfl, rfl⟩ := some3 he
        exact cRi hx hb hr hlk hK rfl hP hD hS dX8_frees_67
      · have he := ifn he c1
        refine lv_aload_n hx hb dX8_frees_14 rfl (lv_at hl 0 rfl) ?_
        refine va_get (D := D) (ci := 8) (v := .ref (g 1)) (C := RX8) (T := TX8) (N := 13) hx hb hts iX8 hown hK hP 0 rfl rfl 1 (by decide) w1 (fun _ h9 => h9) rfl dX8_frees_15 ?_
        refine lv_sipush (v := 362) hx hb dX8_frees_18 (by decide) ?_
        refine lv_iload_n hx hb dX8_frees_21 rfl (lv_at hl 2 rfl) ?_
        refine lv_iadd hx hb dX8_frees_22 ?_
        obtain ⟨h6, he⟩ := grd_i he
        refine va_iald hx hb hK hP 1 0 rfl rfl (ix_in h6) dX8_frees_23 ?_
        refine lv_if_le (tgt := 50) hx hb dX8_frees_24 (by decide) (fun c7 => ?_) (fun c7 => ?_)
        · have he := ifp he c7
          refine lv_iinc (v := (x2 + 1)) (lv' := [(2, .int (x2 + 1)), (0, .ref (g 0)), (1, .int x1)]) hx hb dX8_frees_50 hl (k := 2) rfl rfl (by decide) rfl (fun ls hl => ?_)
          refine lv_goto (tgt := 8) hx hb dX8_frees_53 (by decide) ?_
          exact ih8 x1 (x2 + 1) s hd he H locs hP hD hS ls (lv_sub hl [1, 2, 0] rfl)
        · have he := ifn he c7
          refine lv_aload_n hx hb dX8_frees_27 rfl (lv_at hl 0 rfl) ?_
          refine va_get (D := D) (ci := 8) (v := .ref (g 4)) (C := RX8) (T := TX8) (N := 13) hx hb hts iX8 hown hK hP 0 rfl rfl 5 (by decide) w2 (fun _ h9 => h9) rfl dX8_frees_28 ?_
          refine lv_iload_n hx hb dX8_frees_31 rfl (lv_at hl 2 rfl) ?_
          obtain ⟨h8, he⟩ := grd_i he
          refine va_iald hx hb hK hP 4 0 rfl rfl (ix_in h8) dX8_frees_32 ?_
          refine lv_if_ne (tgt := 50) hx hb dX8_frees_33 (by decide) (fun c9 => ?_) (fun c9 => ?_)
          · have he := ifn he c9
            refine lv_iinc (v := (x2 + 1)) (lv' := [(2, .int (x2 + 1)), (0, .ref (g 0)), (1, .int x1)]) hx hb dX8_frees_50 hl (k := 2) rfl rfl (by decide) rfl (fun ls hl => ?_)
            refine lv_goto (tgt := 8) hx hb dX8_frees_53 (by decide) ?_
            exact ih8 x1 (x2 + 1) s hd he H locs hP hD hS ls (lv_sub hl [1, 2, 0] rfl)
          · have he := ifp he c9
            refine lv_aload_n hx hb dX8_frees_36 rfl (lv_at hl 0 rfl) ?_
            refine va_get (D := D) (ci := 8) (v := .ref (g 1)) (C := RX8) (T := TX8) (N := 13) hx hb hts iX8 hown hK hP 0 rfl rfl 1 (by decide) w1 (fun _ h9 => h9) rfl dX8_frees_37 ?_
            refine lv_sipush (v := 362) hx hb dX8_frees_40 (by decide) ?_
            refine lv_iload_n hx hb dX8_frees_43 rfl (lv_at hl 2 rfl) ?_
            refine lv_iadd hx hb dX8_frees_44 ?_
            refine lv_iconst (v := 0) hx hb dX8_frees_45 (by decide) ?_
            obtain ⟨h10, he⟩ := grd_i he
            obtain ⟨s11, e12, he⟩ := lt_i he
            refine va_iast hx hb hK hP hD hS 1 0 rfl rfl (ix_in h10) dX8_frees_46 (fun H locs hP hD hS => ?_)
            have hP : va_P D vwCl (wModel k g s11 im fr hd nw hh qs qz it th hm ow lo) H := by rw [e12]; exact hP
            have hD : va_D _ (wModel k g s11 im fr hd nw hh qs qz it th hm ow lo) := va_D_adr (by rw [e12]; rfl) hD
            refine lv_iinc (v := (x1 + 1)) (lv' := [(1, .int (x1 + 1)), (0, .ref (g 0)), (2, .int x2)]) hx hb dX8_frees_47 hl (k := 1) rfl rfl (by decide) rfl (fun ls hl => ?_)
            refine lv_iinc (v := (x2 + 1)) (lv' := [(2, .int (x2 + 1)), (1, .int (x1 + 1)), (0, .ref (g 0))]) hx hb dX8_frees_50 hl (k := 2) rfl rfl (by decide) rfl (fun ls hl => ?_)
            refine lv_goto (tgt := 8) hx hb dX8_frees_53 (by decide) ?_
            exact ih8 (x1 + 1) (x2 + 1) s11 hd he H locs hP hD hS ls (lv_sub hl [2, 1, 0] rfl)
  have hS0 := hS
  have key : ∀ (H : Heap) (locs : List Loc), H = ss.heap → locs = [] → va_P D vwCl (wModel k g s_0 im fr hd_0 nw hh qs qz it th hm ow lo) H → va_S (va_A (wModel k g s_0 im fr hd_0 nw hh qs qz it th hm ow lo) ss.heap.size) ss.heap H locs → W pp l ee ({ frames := 5, cells := 0, slots := 0, locals := 108 } : Room) ss mm ([.ref (g 0)] : List Value).toArray bl me co H locs 0 0 (MQ bl (cQi D k (wModel k g s_0 im fr hd_0 nw hh qs qz it th hm ow lo) ss.heap.size r (wModel k g s' im fr hd' nw hh qs qz it th hm ow lo)) ([.ref (g 0)] : List Value).toArray ss 0 0 (va_A (wModel k g s_0 im fr hd_0 nw hh qs qz it th hm ow lo) ss.heap.size)) (F0 mm 0 ls []) := by
    intro H locs _ _ hP hS
    refine lv_aload_n hx hb dX8_frees_0 rfl (lv_at hl 0 rfl) ?_
    obtain ⟨hd1001, h1002, he⟩ := bn1_i he
    refine cVv (wf := (wModel k g s_0 im fr hd1001 nw hh qs qz it th hm ow lo)) (As := []) (rest := []) ⟨hx, hb, hml, hown, hts⟩ hK hA hP hD hS (mX8_counts l D k g (s := s_0) (im := im) (fr := fr) (hd_0 := hd_0) (nw := nw) (hh := hh) (qs := qs) (qz := qz) (it := it) (th := th) (hm := hm) (ow := ow) (lo := lo) h1002) (cwV 0 hts gX8_frees_X8_counts rfl rfl rfl kX8_counts ⟨Nat.le_of_ble_eq_true rfl, Nat.le_of_ble_eq_true rfl⟩) [0, 1, 2, 3, 4, 5, 6, 7, 8, 9] rfl rfl rfl [false, false, false, false, false, false, false, false, false, false] trivial 10 rfl (by decide +kernel) rfl 0 rfl rfl rfl hl.1 rfl (Nat.le_of_ble_eq_true rfl) ⟨Nat.le_refl 0, Nat.le_refl 0⟩ dX8_frees_1 (fun H locs hP hD hS => ?_)
    refine lv_iconst (v := 0) hx hb dX8_frees_4 (by decide) ?_
    refine lv_istore_n (lv' := [(1, .int 0), (0, .ref (g 0))]) hx hb dX8_frees_5 rfl hl (by decide) rfl (fun ls hl => ?_)
    refine lv_iconst (v := 0) hx hb dX8_frees_6 (by decide) ?_
    refine lv_istore_n (lv' := [(2, .int 0), (1, .int 0), (0, .ref (g 0))]) hx hb dX8_frees_7 rfl hl (by decide) rfl (fun ls hl => ?_)
    exact B8 600 0 0 s_0 hd1001 he H locs hP hD hS ls (lv_sub hl [2, 1, 0] rfl)
  exact key ss.heap [] rfl rfl hP hS
theorem kX8_newBlock : yX8_newBlock.cls = RX8 ∧ yX8_newBlock.cls ≠ "java/lang/invoke/MethodHandle" ∧ yX8_newBlock.cls ≠ "java/lang/invoke/VarHandle" ∧ (parseMethodDescriptor yX8_newBlock.desc).map (fun d => d.parameters.length) = some 0 := by decide +kernel
set_option maxRecDepth 100000 in
set_option maxHeartbeats 4000000 in
theorem mX8_newBlock (l : Launch) (D : va_G) (k : Nat → ClassId) (g : Nat → Nat) {s : Nat → Int32} {im : Nat → Int32} {fr : Nat → Int32} {hd : Nat → Int32} {nw : Nat → Int32} {hh : Nat → Int32} {qs : Nat → Int32} {qz : Nat → Int32} {it : Nat → Int64} {th : Int32} {hm : Int32} {ow : Int32} {lo : Int32}  {r : Int32}  (he : xX8_newBlock s = some r) : CtI l D k yX8_newBlock wsX8_newBlock ({ frames := 0, cells := 0, slots := 0, locals := 0 } : Room) [.ref (g 0)] (wModel k g s im fr hd nw hh qs qz it th hm ow lo) r (wModel k g s im fr hd nw hh qs qz it th hm ow lo) := by
  intro sz9
  refine cSt (lv := [(0, .ref (g 0))]) (own := RX8) (cc := cX8_newBlock) (nL := 2) (ret := (some .int)) (by decide +kernel) rfl rfl (Nat.le_of_ble_eq_true rfl) rfl ?_
  intro pp ee ss mm bl me co hsz hC0 hP hD hS ls hl
  subst hsz
  obtain ⟨hx, hb, hr, hml, hown, hts, hK, hlk⟩ := hC0
  have hA : ∀ q, ss.heap.size ≤ q → va_A (wModel k g s im fr hd nw hh qs qz it th hm ow lo) ss.heap.size q := fun q h => Or.inr h
  have iX8 : ∀ w ∈ wsX80, w ∈ wsX8_newBlock := fun _ h => List.mem_cons_of_mem _ (List.mem_append_right _ h)
  have w1 := hts (.fieldLink RX8 7 "DeadListPoolModel" "s" "[I") (List.mem_of_getElem? (i := 1) rfl)
  have B2 : ∀ (n2 : Nat) (x1 : Int32), xX8_newBlock_2 s n2 x1 = some r → ∀ (H : Heap) (locs : List Loc), va_P D vwCl (wModel k g s im fr hd nw hh qs qz it th hm ow lo) H → va_D (va_A (wModel k g s im fr hd nw hh qs qz it th hm ow lo) ss.heap.size) (wModel k g s im fr hd nw hh qs qz it th hm ow lo) → va_S (va_A (wModel k g s im fr hd nw hh qs qz it th hm ow lo) ss.heap.size) ss.heap H locs → ∀ ls : Array Slot, lv_has ls 2 [(0, .ref (g 0)), (1, .int x1)] → W pp l ee ({ frames := 0, cells := 0, slots := 0, locals := 0 } : Room) ss mm ([.ref (g 0)] : List Value).toArray bl me co H locs 0 0 (MQ bl (cQi D k (wModel k g s im fr hd nw hh qs qz it th hm ow lo) ss.heap.size r (wModel k g s im fr hd nw hh qs qz it th hm ow lo)) ([.ref (g 0)] : List Value).toArray ss 0 0 (va_A (wModel k g s im fr hd nw hh qs qz it th hm ow lo) ss.heap.size)) (F0 mm 2 ls []) := by
    intro n2
    induction n2 with
    | zero =>
      intro x1 he
      exact absurd (show (none : Option (Int32)) = some r from he) (by simp)
    | succ n2 ih2 =>
      intro x1 he H locs hP hD hS ls hl
      refine lv_iload_n hx hb dX8_newBlock_2 rfl (lv_at hl 1 rfl) ?_
      refine lv_bipush (v := 96) hx hb dX8_newBlock_3 (by decide) ?_
      refine lv_icmp_ge (tgt := 27) hx hb dX8_newBlock_5 (by decide) (fun c1 => ?_) (fun c1 => ?_)
      · have he := ifp he c1
        refine lv_iload_n hx hb dX8_newBlock_27 rfl (lv_at hl 1 rfl) ?_
        obtain rfl := some1 he
        exact cRi hx hb hr hlk hK rfl hP hD hS dX8_newBlock_28
      · have he := ifn he c1
        refine lv_aload_n hx hb dX8_newBlock_8 rfl (lv_at hl 0 rfl) ?_
        refine va_get (D := D) (ci := 8) (v := .ref (g 1)) (C := RX8) (T := TX8) (N := 13) hx hb hts iX8 hown hK hP 0 rfl rfl 1 (by decide) w1 (fun _ h9 => h9) rfl dX8_newBlock_9 ?_
        refine lv_sipush (v := 362) hx hb dX8_newBlock_12 (by decide) ?_
        refine lv_iload_n hx hb dX8_newBlock_15 rfl (lv_at hl 1 rfl) ?_
        refine lv_iadd hx hb dX8_newBlock_16 ?_
        obtain ⟨h2, he⟩ := grd_i he
        refine va_iald hx hb hK hP 1 0 rfl rfl (ix_in h2) dX8_newBlock_17 ?_
        refine lv_if_le (tgt := 27) hx hb dX8_newBlock_18 (by decide) (fun c3 => ?_) (fun c3 => ?_)
        · have he := ifp he c3
          refine lv_iload_n hx hb dX8_newBlock_27 rfl (lv_at hl 1 rfl) ?_
          obtain rfl := some1 he
          exact cRi hx hb hr hlk hK rfl hP hD hS dX8_newBlock_28
        · have he := ifn he c3
          refine lv_iinc (v := (x1 + 1)) (lv' := [(1, .int (x1 + 1)), (0, .ref (g 0))]) hx hb dX8_newBlock_21 hl (k := 1) rfl rfl (by decide) rfl (fun ls hl => ?_)
          refine lv_goto (tgt := 2) hx hb dX8_newBlock_24 (by decide) ?_
          exact ih2 (x1 + 1) he H locs hP hD hS ls (lv_sub hl [1, 0] rfl)
  have hS0 := hS
  have key : ∀ (H : Heap) (locs : List Loc), H = ss.heap → locs = [] → va_P D vwCl (wModel k g s im fr hd nw hh qs qz it th hm ow lo) H → va_S (va_A (wModel k g s im fr hd nw hh qs qz it th hm ow lo) ss.heap.size) ss.heap H locs → W pp l ee ({ frames := 0, cells := 0, slots := 0, locals := 0 } : Room) ss mm ([.ref (g 0)] : List Value).toArray bl me co H locs 0 0 (MQ bl (cQi D k (wModel k g s im fr hd nw hh qs qz it th hm ow lo) ss.heap.size r (wModel k g s im fr hd nw hh qs qz it th hm ow lo)) ([.ref (g 0)] : List Value).toArray ss 0 0 (va_A (wModel k g s im fr hd nw hh qs qz it th hm ow lo) ss.heap.size)) (F0 mm 0 ls []) := by
    intro H locs _ _ hP hS
    refine lv_iconst (v := 0) hx hb dX8_newBlock_0 (by decide) ?_
    refine lv_istore_n (lv' := [(1, .int 0), (0, .ref (g 0))]) hx hb dX8_newBlock_1 rfl hl (by decide) rfl (fun ls hl => ?_)
    exact B2 600 0 he H locs hP hD hS ls (lv_sub hl [1, 0] rfl)
  exact key ss.heap [] rfl rfl hP hS
theorem kX8_blocks : yX8_blocks.cls = RX8 ∧ yX8_blocks.cls ≠ "java/lang/invoke/MethodHandle" ∧ yX8_blocks.cls ≠ "java/lang/invoke/VarHandle" ∧ (parseMethodDescriptor yX8_blocks.desc).map (fun d => d.parameters.length) = some 0 := by decide +kernel
set_option maxRecDepth 100000 in
set_option maxHeartbeats 4000000 in
theorem mX8_blocks (l : Launch) (D : va_G) (k : Nat → ClassId) (g : Nat → Nat) {s : Nat → Int32} {im : Nat → Int32} {fr : Nat → Int32} {hd : Nat → Int32} {nw : Nat → Int32} {hh : Nat → Int32} {qs : Nat → Int32} {qz : Nat → Int32} {it : Nat → Int64} {th : Int32} {hm : Int32} {ow : Int32} {lo : Int32}  {r : Int32}  (he : xX8_blocks s = some r) : CtI l D k yX8_blocks wsX8_blocks ({ frames := 0, cells := 0, slots := 0, locals := 0 } : Room) [.ref (g 0)] (wModel k g s im fr hd nw hh qs qz it th hm ow lo) r (wModel k g s im fr hd nw hh qs qz it th hm ow lo) := by
  intro sz9
  refine cSt (lv := [(0, .ref (g 0))]) (own := RX8) (cc := cX8_blocks) (nL := 3) (ret := (some .int)) (by decide +kernel) rfl rfl (Nat.le_of_ble_eq_true rfl) rfl ?_
  intro pp ee ss mm bl me co hsz hC0 hP hD hS ls hl
  subst hsz
  obtain ⟨hx, hb, hr, hml, hown, hts, hK, hlk⟩ := hC0
  have hA : ∀ q, ss.heap.size ≤ q → va_A (wModel k g s im fr hd nw hh qs qz it th hm ow lo) ss.heap.size q := fun q h => Or.inr h
  have iX8 : ∀ w ∈ wsX80, w ∈ wsX8_blocks := fun _ h => List.mem_cons_of_mem _ (List.mem_append_right _ h)
  have w1 := hts (.fieldLink RX8 7 "DeadListPoolModel" "s" "[I") (List.mem_of_getElem? (i := 1) rfl)
  have B4 : ∀ (n4 : Nat) (x1 : Int32) (x2 : Int32), xX8_blocks_4 s n4 x1 x2 = some r → ∀ (H : Heap) (locs : List Loc), va_P D vwCl (wModel k g s im fr hd nw hh qs qz it th hm ow lo) H → va_D (va_A (wModel k g s im fr hd nw hh qs qz it th hm ow lo) ss.heap.size) (wModel k g s im fr hd nw hh qs qz it th hm ow lo) → va_S (va_A (wModel k g s im fr hd nw hh qs qz it th hm ow lo) ss.heap.size) ss.heap H locs → ∀ ls : Array Slot, lv_has ls 3 [(0, .ref (g 0)), (1, .int x1), (2, .int x2)] → W pp l ee ({ frames := 0, cells := 0, slots := 0, locals := 0 } : Room) ss mm ([.ref (g 0)] : List Value).toArray bl me co H locs 0 0 (MQ bl (cQi D k (wModel k g s im fr hd nw hh qs qz it th hm ow lo) ss.heap.size r (wModel k g s im fr hd nw hh qs qz it th hm ow lo)) ([.ref (g 0)] : List Value).toArray ss 0 0 (va_A (wModel k g s im fr hd nw hh qs qz it th hm ow lo) ss.heap.size)) (F0 mm 4 ls []) := by
    intro n4
    induction n4 with
    | zero =>
      intro x1 x2 he
      exact absurd (show (none : Option (Int32)) = some r from he) (by simp)
    | succ n4 ih4 =>
      intro x1 x2 he H locs hP hD hS ls hl
      refine lv_iload_n hx hb dX8_blocks_4 rfl (lv_at hl 2 rfl) ?_
      refine lv_bipush (v := 96) hx hb dX8_blocks_5 (by decide) ?_
      refine lv_icmp_ge (tgt := 37) hx hb dX8_blocks_7 (by decide) (fun c1 => ?_) (fun c1 => ?_)
      · have he := ifp he c1
        refine lv_iload_n hx hb dX8_blocks_37 rfl (lv_at hl 1 rfl) ?_
        obtain rfl := some1 he
        exact cRi hx hb hr hlk hK rfl hP hD hS dX8_blocks_38
      · have he := ifn he c1
        refine lv_iload_n hx hb dX8_blocks_10 rfl (lv_at hl 1 rfl) ?_
        refine lv_aload_n hx hb dX8_blocks_11 rfl (lv_at hl 0 rfl) ?_
        refine va_get (D := D) (ci := 8) (v := .ref (g 1)) (C := RX8) (T := TX8) (N := 13) hx hb hts iX8 hown hK hP 0 rfl rfl 1 (by decide) w1 (fun _ h9 => h9) rfl dX8_blocks_12 ?_
        refine lv_sipush (v := 362) hx hb dX8_blocks_15 (by decide) ?_
        refine lv_iload_n hx hb dX8_blocks_18 rfl (lv_at hl 2 rfl) ?_
        refine lv_iadd hx hb dX8_blocks_19 ?_
        obtain ⟨h2, he⟩ := grd_i he
        refine va_iald hx hb hK hP 1 0 rfl rfl (ix_in h2) dX8_blocks_20 ?_
        refine lv_if_le (tgt := 28) hx hb dX8_blocks_21 (by decide) (fun c3 => ?_) (fun c3 => ?_)
        · have he := ifp he c3
          refine lv_iconst (v := 0) hx hb dX8_blocks_28 (by decide) ?_
          refine lv_iadd hx hb dX8_blocks_29 ?_
          refine lv_istore_n (lv' := [(1, .int (x1 + 0)), (0, .ref (g 0)), (2, .int x2)]) hx hb dX8_blocks_30 rfl hl (by decide) rfl (fun ls hl => ?_)
          refine lv_iinc (v := (x2 + 1)) (lv' := [(2, .int (x2 + 1)), (1, .int (x1 + 0)), (0, .ref (g 0))]) hx hb dX8_blocks_31 hl (k := 2) rfl rfl (by decide) rfl (fun ls hl => ?_)
          refine lv_goto (tgt := 4) hx hb dX8_blocks_34 (by decide) ?_
          exact ih4 (x1 + 0) (x2 + 1) he H locs hP hD hS ls (lv_sub hl [2, 1, 0] rfl)
        · have he := ifn he c3
          refine lv_iconst (v := 1) hx hb dX8_blocks_24 (by decide) ?_
          refine lv_goto (tgt := 29) hx hb dX8_blocks_25 (by decide) ?_
          refine lv_iadd hx hb dX8_blocks_29 ?_
          refine lv_istore_n (lv' := [(1, .int (x1 + 1)), (0, .ref (g 0)), (2, .int x2)]) hx hb dX8_blocks_30 rfl hl (by decide) rfl (fun ls hl => ?_)
          refine lv_iinc (v := (x2 + 1)) (lv' := [(2, .int (x2 + 1)), (1, .int (x1 + 1)), (0, .ref (g 0))]) hx hb dX8_blocks_31 hl (k := 2) rfl rfl (by decide) rfl (fun ls hl => ?_)
          refine lv_goto (tgt := 4) hx hb dX8_blocks_34 (by decide) ?_
          exact ih4 (x1 + 1) (x2 + 1) he H locs hP hD hS ls (lv_sub hl [2, 1, 0] rfl)
  have hS0 := hS
  have key : ∀ (H : Heap) (locs : List Loc), H = ss.heap → locs = [] → va_P D vwCl (wModel k g s im fr hd nw hh qs qz it th hm ow lo) H → va_S (va_A (wModel k g s im fr hd nw hh qs qz it th hm ow lo) ss.heap.size) ss.heap H locs → W pp l ee ({ frames := 0, cells := 0, slots := 0, locals := 0 } : Room) ss mm ([.ref (g 0)] : List Value).toArray bl me co H locs 0 0 (MQ bl (cQi D k (wModel k g s im fr hd nw hh qs qz it th hm ow lo) ss.heap.size r (wModel k g s im fr hd nw hh qs qz it th hm ow lo)) ([.ref (g 0)] : List Value).toArray ss 0 0 (va_A (wModel k g s im fr hd nw hh qs qz it th hm ow lo) ss.heap.size)) (F0 mm 0 ls []) := by
    intro H locs _ _ hP hS
    refine lv_iconst (v := 0) hx hb dX8_blocks_0 (by decide) ?_
    refine lv_istore_n (lv' := [(1, .int 0), (0, .ref (g 0))]) hx hb dX8_blocks_1 rfl hl (by decide) rfl (fun ls hl => ?_)
    refine lv_iconst (v := 0) hx hb dX8_blocks_2 (by decide) ?_
    refine lv_istore_n (lv' := [(2, .int 0), (1, .int 0), (0, .ref (g 0))]) hx hb dX8_blocks_3 rfl hl (by decide) rfl (fun ls hl => ?_)
    exact B4 600 0 0 he H locs hP hD hS ls (lv_sub hl [2, 1, 0] rfl)
  exact key ss.heap [] rfl rfl hP hS
theorem kX8_newThing : yX8_newThing.cls = RX8 ∧ yX8_newThing.cls ≠ "java/lang/invoke/MethodHandle" ∧ yX8_newThing.cls ≠ "java/lang/invoke/VarHandle" ∧ (parseMethodDescriptor yX8_newThing.desc).map (fun d => d.parameters.length) = some 0 := by decide +kernel
set_option maxRecDepth 100000 in
set_option maxHeartbeats 4000000 in
theorem mX8_newThing (l : Launch) (D : va_G) (k : Nat → ClassId) (g : Nat → Nat) {s : Nat → Int32} {im : Nat → Int32} {fr : Nat → Int32} {hd : Nat → Int32} {nw : Nat → Int32} {hh : Nat → Int32} {qs : Nat → Int32} {qz : Nat → Int32} {it : Nat → Int64} {th : Int32} {hm : Int32} {ow : Int32} {lo : Int32}  {r : Int32}  (he : xX8_newThing s = some r) : CtI l D k yX8_newThing wsX8_newThing ({ frames := 0, cells := 0, slots := 0, locals := 0 } : Room) [.ref (g 0)] (wModel k g s im fr hd nw hh qs qz it th hm ow lo) r (wModel k g s im fr hd nw hh qs qz it th hm ow lo) := by
  intro sz9
  refine cSt (lv := [(0, .ref (g 0))]) (own := RX8) (cc := cX8_newThing) (nL := 2) (ret := (some .int)) (by decide +kernel) rfl rfl (Nat.le_of_ble_eq_true rfl) rfl ?_
  intro pp ee ss mm bl me co hsz hC0 hP hD hS ls hl
  subst hsz
  obtain ⟨hx, hb, hr, hml, hown, hts, hK, hlk⟩ := hC0
  have hA : ∀ q, ss.heap.size ≤ q → va_A (wModel k g s im fr hd nw hh qs qz it th hm ow lo) ss.heap.size q := fun q h => Or.inr h
  have iX8 : ∀ w ∈ wsX80, w ∈ wsX8_newThing := fun _ h => List.mem_cons_of_mem _ (List.mem_append_right _ h)
  have w1 := hts (.fieldLink RX8 7 "DeadListPoolModel" "s" "[I") (List.mem_of_getElem? (i := 1) rfl)
  have B2 : ∀ (n2 : Nat) (x1 : Int32), xX8_newThing_2 s n2 x1 = some r → ∀ (H : Heap) (locs : List Loc), va_P D vwCl (wModel k g s im fr hd nw hh qs qz it th hm ow lo) H → va_D (va_A (wModel k g s im fr hd nw hh qs qz it th hm ow lo) ss.heap.size) (wModel k g s im fr hd nw hh qs qz it th hm ow lo) → va_S (va_A (wModel k g s im fr hd nw hh qs qz it th hm ow lo) ss.heap.size) ss.heap H locs → ∀ ls : Array Slot, lv_has ls 2 [(0, .ref (g 0)), (1, .int x1)] → W pp l ee ({ frames := 0, cells := 0, slots := 0, locals := 0 } : Room) ss mm ([.ref (g 0)] : List Value).toArray bl me co H locs 0 0 (MQ bl (cQi D k (wModel k g s im fr hd nw hh qs qz it th hm ow lo) ss.heap.size r (wModel k g s im fr hd nw hh qs qz it th hm ow lo)) ([.ref (g 0)] : List Value).toArray ss 0 0 (va_A (wModel k g s im fr hd nw hh qs qz it th hm ow lo) ss.heap.size)) (F0 mm 2 ls []) := by
    intro n2
    induction n2 with
    | zero =>
      intro x1 he
      exact absurd (show (none : Option (Int32)) = some r from he) (by simp)
    | succ n2 ih2 =>
      intro x1 he H locs hP hD hS ls hl
      refine lv_iload_n hx hb dX8_newThing_2 rfl (lv_at hl 1 rfl) ?_
      refine lv_bipush (v := 20) hx hb dX8_newThing_3 (by decide) ?_
      refine lv_icmp_ge (tgt := 26) hx hb dX8_newThing_5 (by decide) (fun c1 => ?_) (fun c1 => ?_)
      · have he := ifp he c1
        refine lv_iload_n hx hb dX8_newThing_26 rfl (lv_at hl 1 rfl) ?_
        obtain rfl := some1 he
        exact cRi hx hb hr hlk hK rfl hP hD hS dX8_newThing_27
      · have he := ifn he c1
        refine lv_aload_n hx hb dX8_newThing_8 rfl (lv_at hl 0 rfl) ?_
        refine va_get (D := D) (ci := 8) (v := .ref (g 1)) (C := RX8) (T := TX8) (N := 13) hx hb hts iX8 hown hK hP 0 rfl rfl 1 (by decide) w1 (fun _ h9 => h9) rfl dX8_newThing_9 ?_
        refine lv_iconst (v := 2) hx hb dX8_newThing_12 (by decide) ?_
        refine lv_iload_n hx hb dX8_newThing_13 rfl (lv_at hl 1 rfl) ?_
        refine lv_iadd hx hb dX8_newThing_14 ?_
        obtain ⟨h2, he⟩ := grd_i he
        refine va_iald hx hb hK hP 1 0 rfl rfl (ix_in h2) dX8_newThing_15 ?_
        refine lv_iconst (v := (-1)) hx hb dX8_newThing_16 (by decide) ?_
        refine lv_icmp_eq (tgt := 26) hx hb dX8_newThing_17 (by decide) (fun c3 => ?_) (fun c3 => ?_)
        · have he := ifp he c3
          refine lv_iload_n hx hb dX8_newThing_26 rfl (lv_at hl 1 rfl) ?_
          obtain rfl := some1 he
          exact cRi hx hb hr hlk hK rfl hP hD hS dX8_newThing_27
        · have he := ifn he c3
          refine lv_iinc (v := (x1 + 1)) (lv' := [(1, .int (x1 + 1)), (0, .ref (g 0))]) hx hb dX8_newThing_20 hl (k := 1) rfl rfl (by decide) rfl (fun ls hl => ?_)
          refine lv_goto (tgt := 2) hx hb dX8_newThing_23 (by decide) ?_
          exact ih2 (x1 + 1) he H locs hP hD hS ls (lv_sub hl [1, 0] rfl)
  have hS0 := hS
  have key : ∀ (H : Heap) (locs : List Loc), H = ss.heap → locs = [] → va_P D vwCl (wModel k g s im fr hd nw hh qs qz it th hm ow lo) H → va_S (va_A (wModel k g s im fr hd nw hh qs qz it th hm ow lo) ss.heap.size) ss.heap H locs → W pp l ee ({ frames := 0, cells := 0, slots := 0, locals := 0 } : Room) ss mm ([.ref (g 0)] : List Value).toArray bl me co H locs 0 0 (MQ bl (cQi D k (wModel k g s im fr hd nw hh qs qz it th hm ow lo) ss.heap.size r (wModel k g s im fr hd nw hh qs qz it th hm ow lo)) ([.ref (g 0)] : List Value).toArray ss 0 0 (va_A (wModel k g s im fr hd nw hh qs qz it th hm ow lo) ss.heap.size)) (F0 mm 0 ls []) := by
    intro H locs _ _ hP hS
    refine lv_iconst (v := 0) hx hb dX8_newThing_0 (by decide) ?_
    refine lv_istore_n (lv' := [(1, .int 0), (0, .ref (g 0))]) hx hb dX8_newThing_1 rfl hl (by decide) rfl (fun ls hl => ?_)
    exact B2 600 0 he H locs hP hD hS ls (lv_sub hl [1, 0] rfl)
  exact key ss.heap [] rfl rfl hP hS
theorem kX8_comes : yX8_comes.cls = RX8 ∧ yX8_comes.cls ≠ "java/lang/invoke/MethodHandle" ∧ yX8_comes.cls ≠ "java/lang/invoke/VarHandle" ∧ (parseMethodDescriptor yX8_comes.desc).map (fun d => d.parameters.length) = some 2 := by decide +kernel
set_option maxRecDepth 100000 in
set_option maxHeartbeats 4000000 in
theorem mX8_comes (l : Launch) (D : va_G) (k : Nat → ClassId) (g : Nat → Nat) {s_0 : Nat → Int32} {im : Nat → Int32} {fr : Nat → Int32} {hd : Nat → Int32} {nw : Nat → Int32} {hh : Nat → Int32} {qs : Nat → Int32} {qz : Nat → Int32} {it : Nat → Int64} {th : Int32} {hm : Int32} {ow : Int32} {lo : Int32} {p1 : Int32} {p2 : Int32} {r : Int32} {s' : Nat → Int32} (he : xX8_comes s_0 p1 p2 = some (r, s')) : CtI l D k yX8_comes wsX8_comes ({ frames := 1, cells := 0, slots := 0, locals := 21 } : Room) [.ref (g 0), .int p1, .int p2] (wModel k g s_0 im fr hd nw hh qs qz it th hm ow lo) r (wModel k g s' im fr hd nw hh qs qz it th hm ow lo) := by
  intro sz9
  refine cSt (lv := [(0, .ref (g 0)), (1, .int p1), (2, .int p2)]) (own := RX8) (cc := cX8_comes) (nL := 5) (ret := (some .int)) (by decide +kernel) rfl rfl (Nat.le_of_ble_eq_true rfl) rfl ?_
  intro pp ee ss mm bl me co hsz hC0 hP hD hS ls hl
  subst hsz
  obtain ⟨hx, hb, hr, hml, hown, hts, hK, hlk⟩ := hC0
  have hA : ∀ q, ss.heap.size ≤ q → va_A (wModel k g s_0 im fr hd nw hh qs qz it th hm ow lo) ss.heap.size q := fun q h => Or.inr h
  have iX8 : ∀ w ∈ wsX80, w ∈ wsX8_comes := fun _ h => List.mem_cons_of_mem _ (List.mem_append_right _ h)
  have w1 := hts (.fieldLink RX8 7 "DeadListPoolModel" "s" "[I") (List.mem_of_getElem? (i := 1) rfl)
  have B67 : ∀ (n67 : Nat) (x3 : Int32) (x4 : Int32) (s : Nat → Int32), xX8_comes_67 n67 x3 x4 s = some (r, s') → ∀ (H : Heap) (locs : List Loc), va_P D vwCl (wModel k g s im fr hd nw hh qs qz it th hm ow lo) H → va_D (va_A (wModel k g s_0 im fr hd nw hh qs qz it th hm ow lo) ss.heap.size) (wModel k g s im fr hd nw hh qs qz it th hm ow lo) → va_S (va_A (wModel k g s_0 im fr hd nw hh qs qz it th hm ow lo) ss.heap.size) ss.heap H locs → ∀ ls : Array Slot, lv_has ls 5 [(0, .ref (g 0)), (3, .int x3), (4, .int x4)] → W pp l ee ({ frames := 1, cells := 0, slots := 0, locals := 21 } : Room) ss mm ([.ref (g 0), .int p1, .int p2] : List Value).toArray bl me co H locs 0 0 (MQ bl (cQi D k (wModel k g s_0 im fr hd nw hh qs qz it th hm ow lo) ss.heap.size r (wModel k g s' im fr hd nw hh qs qz it th hm ow lo)) ([.ref (g 0), .int p1, .int p2] : List Value).toArray ss 0 0 (va_A (wModel k g s_0 im fr hd nw hh qs qz it th hm ow lo) ss.heap.size)) (F0 mm 67 ls []) := by
    intro n67
    induction n67 with
    | zero =>
      intro x3 x4 s he
      exact absurd (show (none : Option (Int32 × (Nat → Int32))) = some (r, s') from he) (by simp)
    | succ n67 ih67 =>
      intro x3 x4 s he H locs hP hD hS ls hl
      refine lv_iload hx hb dX8_comes_67 (lv_at hl 2 rfl) ?_
      refine lv_bipush (v := 12) hx hb dX8_comes_69 (by decide) ?_
      refine lv_icmp_ge (tgt := 96) hx hb dX8_comes_71 (by decide) (fun c1 => ?_) (fun c1 => ?_)
      · have he := ifp he c1
        refine lv_iload_n hx hb dX8_comes_96 rfl (lv_at hl 1 rfl) ?_
        obtain ⟨rfl, rfl⟩ := some2 he
        exact cRi hx hb hr hlk hK rfl hP hD hS dX8_comes_97
      · have he := ifn he c1
        refine lv_aload_n hx hb dX8_comes_74 rfl (lv_at hl 0 rfl) ?_
        refine va_get (D := D) (ci := 8) (v := .ref (g 1)) (C := RX8) (T := TX8) (N := 13) hx hb hts iX8 hown hK hP 0 rfl rfl 1 (by decide) w1 (fun _ h9 => h9) rfl dX8_comes_75 ?_
        refine lv_bipush (v := 122) hx hb dX8_comes_78 (by decide) ?_
        refine lv_bipush (v := 12) hx hb dX8_comes_80 (by decide) ?_
        refine lv_iload_n hx hb dX8_comes_82 rfl (lv_at hl 1 rfl) ?_
        refine lv_imul hx hb dX8_comes_83 ?_
        refine lv_iadd hx hb dX8_comes_84 ?_
        refine lv_iload hx hb dX8_comes_85 (lv_at hl 2 rfl) ?_
        refine lv_iadd hx hb dX8_comes_87 ?_
        refine lv_iconst (v := (-1)) hx hb dX8_comes_88 (by decide) ?_
        obtain ⟨h2, he⟩ := grd_i he
        obtain ⟨s3, e4, he⟩ := lt_i he
        refine va_iast hx hb hK hP hD hS 1 0 rfl rfl (ix_in h2) dX8_comes_89 (fun H locs hP hD hS => ?_)
        have hP : va_P D vwCl (wModel k g s3 im fr hd nw hh qs qz it th hm ow lo) H := by rw [e4]; exact hP
        have hD : va_D _ (wModel k g s3 im fr hd nw hh qs qz it th hm ow lo) := va_D_adr (by rw [e4]; rfl) hD
        refine lv_iinc (v := (x4 + 1)) (lv' := [(4, .int (x4 + 1)), (0, .ref (g 0)), (3, .int x3)]) hx hb dX8_comes_90 hl (k := 2) rfl rfl (by decide) rfl (fun ls hl => ?_)
        refine lv_goto (tgt := 67) hx hb dX8_comes_93 (by decide) ?_
        exact ih67 x3 (x4 + 1) s3 he H locs hP hD hS ls (lv_sub hl [1, 2, 0] rfl)
  have hS0 := hS
  have key : ∀ (H : Heap) (locs : List Loc), H = ss.heap → locs = [] → va_P D vwCl (wModel k g s_0 im fr hd nw hh qs qz it th hm ow lo) H → va_S (va_A (wModel k g s_0 im fr hd nw hh qs qz it th hm ow lo) ss.heap.size) ss.heap H locs → W pp l ee ({ frames := 1, cells := 0, slots := 0, locals := 21 } : Room) ss mm ([.ref (g 0), .int p1, .int p2] : List Value).toArray bl me co H locs 0 0 (MQ bl (cQi D k (wModel k g s_0 im fr hd nw hh qs qz it th hm ow lo) ss.heap.size r (wModel k g s' im fr hd nw hh qs qz it th hm ow lo)) ([.ref (g 0), .int p1, .int p2] : List Value).toArray ss 0 0 (va_A (wModel k g s_0 im fr hd nw hh qs qz it th hm ow lo) ss.heap.size)) (F0 mm 0 ls []) := by
    intro H locs _ _ hP hS
    refine lv_aload_n hx hb dX8_comes_0 rfl (lv_at hl 0 rfl) ?_
    obtain ⟨v1001, h1002, he⟩ := bn1_i he
    refine cVir (As := []) (rest := []) ⟨hx, hb, hml, hown, hts⟩ hK hA hP hD hS (mX8_newThing l D k g (s := s_0) (im := im) (fr := fr) (hd := hd) (nw := nw) (hh := hh) (qs := qs) (qz := qz) (it := it) (th := th) (hm := hm) (ow := ow) (lo := lo) h1002) (cwV 0 hts gX8_comes_X8_newThing rfl rfl rfl kX8_newThing ⟨Nat.le_of_ble_eq_true rfl, Nat.le_of_ble_eq_true rfl⟩) [0, 1, 2, 3, 4, 5, 6, 7, 8, 9] rfl rfl 0 rfl rfl rfl hl.1 rfl (Nat.le_of_ble_eq_true rfl) ⟨Nat.le_refl 0, Nat.le_refl 0⟩ dX8_comes_1 (fun H locs hP hD hS => ?_)
    refine lv_istore_n (lv' := [(3, .int v1001), (0, .ref (g 0)), (1, .int p1), (2, .int p2)]) hx hb dX8_comes_4 rfl hl (by decide) rfl (fun ls hl => ?_)
    refine lv_aload_n hx hb dX8_comes_5 rfl (lv_at hl 1 rfl) ?_
    refine va_get (D := D) (ci := 8) (v := .ref (g 1)) (C := RX8) (T := TX8) (N := 13) hx hb hts iX8 hown hK hP 0 rfl rfl 1 (by decide) w1 (fun _ h9 => h9) rfl dX8_comes_6 ?_
    refine lv_iconst (v := 2) hx hb dX8_comes_9 (by decide) ?_
    refine lv_iload_n hx hb dX8_comes_10 rfl (lv_at hl 0 rfl) ?_
    refine lv_iadd hx hb dX8_comes_11 ?_
    refine lv_iload_n hx hb dX8_comes_12 rfl (lv_at hl 2 rfl) ?_
    obtain ⟨h1003, he⟩ := grd_i he
    obtain ⟨s1004, e1005, he⟩ := lt_i he
    refine va_iast hx hb hK hP hD hS 1 0 rfl rfl (ix_in h1003) dX8_comes_13 (fun H locs hP hD hS => ?_)
    have hP : va_P D vwCl (wModel k g s1004 im fr hd nw hh qs qz it th hm ow lo) H := by rw [e1005]; exact hP
    have hD : va_D _ (wModel k g s1004 im fr hd nw hh qs qz it th hm ow lo) := va_D_adr (by rw [e1005]; rfl) hD
    refine lv_aload_n hx hb dX8_comes_14 rfl (lv_at hl 1 rfl) ?_
    refine va_get (D := D) (ci := 8) (v := .ref (g 1)) (C := RX8) (T := TX8) (N := 13) hx hb hts iX8 hown hK hP 0 rfl rfl 1 (by decide) w1 (fun _ h9 => h9) rfl dX8_comes_15 ?_
    refine lv_bipush (v := 22) hx hb dX8_comes_18 (by decide) ?_
    refine lv_iload_n hx hb dX8_comes_20 rfl (lv_at hl 0 rfl) ?_
    refine lv_iadd hx hb dX8_comes_21 ?_
    refine lv_iload_n hx hb dX8_comes_22 rfl (lv_at hl 3 rfl) ?_
    obtain ⟨h1006, he⟩ := grd_i he
    obtain ⟨s1007, e1008, he⟩ := lt_i he
    refine va_iast hx hb hK hP hD hS 1 0 rfl rfl (ix_in h1006) dX8_comes_23 (fun H locs hP hD hS => ?_)
    have hP : va_P D vwCl (wModel k g s1007 im fr hd nw hh qs qz it th hm ow lo) H := by rw [e1008]; exact hP
    have hD : va_D _ (wModel k g s1007 im fr hd nw hh qs qz it th hm ow lo) := va_D_adr (by rw [e1008]; rfl) hD
    refine lv_aload_n hx hb dX8_comes_24 rfl (lv_at hl 1 rfl) ?_
    refine va_get (D := D) (ci := 8) (v := .ref (g 1)) (C := RX8) (T := TX8) (N := 13) hx hb hts iX8 hown hK hP 0 rfl rfl 1 (by decide) w1 (fun _ h9 => h9) rfl dX8_comes_25 ?_
    refine lv_bipush (v := 42) hx hb dX8_comes_28 (by decide) ?_
    refine lv_iload_n hx hb dX8_comes_30 rfl (lv_at hl 0 rfl) ?_
    refine lv_iadd hx hb dX8_comes_31 ?_
    refine lv_iconst (v := (-1)) hx hb dX8_comes_32 (by decide) ?_
    obtain ⟨h1009, he⟩ := grd_i he
    obtain ⟨s1010, e1011, he⟩ := lt_i he
    refine va_iast hx hb hK hP hD hS 1 0 rfl rfl (ix_in h1009) dX8_comes_33 (fun H locs hP hD hS => ?_)
    have hP : va_P D vwCl (wModel k g s1010 im fr hd nw hh qs qz it th hm ow lo) H := by rw [e1011]; exact hP
    have hD : va_D _ (wModel k g s1010 im fr hd nw hh qs qz it th hm ow lo) := va_D_adr (by rw [e1011]; rfl) hD
    refine lv_aload_n hx hb dX8_comes_34 rfl (lv_at hl 1 rfl) ?_
    refine va_get (D := D) (ci := 8) (v := .ref (g 1)) (C := RX8) (T := TX8) (N := 13) hx hb hts iX8 hown hK hP 0 rfl rfl 1 (by decide) w1 (fun _ h9 => h9) rfl dX8_comes_35 ?_
    refine lv_bipush (v := 62) hx hb dX8_comes_38 (by decide) ?_
    refine lv_iload_n hx hb dX8_comes_40 rfl (lv_at hl 0 rfl) ?_
    refine lv_iadd hx hb dX8_comes_41 ?_
    refine lv_iconst (v := (-1)) hx hb dX8_comes_42 (by decide) ?_
    obtain ⟨h1012, he⟩ := grd_i he
    obtain ⟨s1013, e1014, he⟩ := lt_i he
    refine va_iast hx hb hK hP hD hS 1 0 rfl rfl (ix_in h1012) dX8_comes_43 (fun H locs hP hD hS => ?_)
    have hP : va_P D vwCl (wModel k g s1013 im fr hd nw hh qs qz it th hm ow lo) H := by rw [e1014]; exact hP
    have hD : va_D _ (wModel k g s1013 im fr hd nw hh qs qz it th hm ow lo) := va_D_adr (by rw [e1014]; rfl) hD
    refine lv_aload_n hx hb dX8_comes_44 rfl (lv_at hl 1 rfl) ?_
    refine va_get (D := D) (ci := 8) (v := .ref (g 1)) (C := RX8) (T := TX8) (N := 13) hx hb hts iX8 hown hK hP 0 rfl rfl 1 (by decide) w1 (fun _ h9 => h9) rfl dX8_comes_45 ?_
    refine lv_bipush (v := 82) hx hb dX8_comes_48 (by decide) ?_
    refine lv_iload_n hx hb dX8_comes_50 rfl (lv_at hl 0 rfl) ?_
    refine lv_iadd hx hb dX8_comes_51 ?_
    refine lv_iconst (v := (-1)) hx hb dX8_comes_52 (by decide) ?_
    obtain ⟨h1015, he⟩ := grd_i he
    obtain ⟨s1016, e1017, he⟩ := lt_i he
    refine va_iast hx hb hK hP hD hS 1 0 rfl rfl (ix_in h1015) dX8_comes_53 (fun H locs hP hD hS => ?_)
    have hP : va_P D vwCl (wModel k g s1016 im fr hd nw hh qs qz it th hm ow lo) H := by rw [e1017]; exact hP
    have hD : va_D _ (wModel k g s1016 im fr hd nw hh qs qz it th hm ow lo) := va_D_adr (by rw [e1017]; rfl) hD
    refine lv_aload_n hx hb dX8_comes_54 rfl (lv_at hl 1 rfl) ?_
    refine va_get (D := D) (ci := 8) (v := .ref (g 1)) (C := RX8) (T := TX8) (N := 13) hx hb hts iX8 hown hK hP 0 rfl rfl 1 (by decide) w1 (fun _ h9 => h9) rfl dX8_comes_55 ?_
    refine lv_bipush (v := 102) hx hb dX8_comes_58 (by decide) ?_
    refine lv_iload_n hx hb dX8_comes_60 rfl (lv_at hl 0 rfl) ?_
    refine lv_iadd hx hb dX8_comes_61 ?_
    refine lv_iconst (v := 0) hx hb dX8_comes_62 (by decide) ?_
    obtain ⟨h1018, he⟩ := grd_i he
    obtain ⟨s1019, e1020, he⟩ := lt_i he
    refine va_iast hx hb hK hP hD hS 1 0 rfl rfl (ix_in h1018) dX8_comes_63 (fun H locs hP hD hS => ?_)
    have hP : va_P D vwCl (wModel k g s1019 im fr hd nw hh qs qz it th hm ow lo) H := by rw [e1020]; exact hP
    have hD : va_D _ (wModel k g s1019 im fr hd nw hh qs qz it th hm ow lo) := va_D_adr (by rw [e1020]; rfl) hD
    refine lv_iconst (v := 0) hx hb dX8_comes_64 (by decide) ?_
    refine lv_istore (lv' := [(4, .int 0), (3, .int v1001), (0, .ref (g 0)), (1, .int p1), (2, .int p2)]) hx hb dX8_comes_65 hl (by decide) rfl (fun ls hl => ?_)
    exact B67 600 v1001 0 s1019 he H locs hP hD hS ls (lv_sub hl [2, 1, 0] rfl)
  exact key ss.heap [] rfl rfl hP hS
theorem kX8_takesSlots : yX8_takesSlots.cls = RX8 ∧ yX8_takesSlots.cls ≠ "java/lang/invoke/MethodHandle" ∧ yX8_takesSlots.cls ≠ "java/lang/invoke/VarHandle" ∧ (parseMethodDescriptor yX8_takesSlots.desc).map (fun d => d.parameters.length) = some 2 := by decide +kernel
set_option maxRecDepth 100000 in
set_option maxHeartbeats 4000000 in
theorem mX8_takesSlots (l : Launch) (D : va_G) (k : Nat → ClassId) (g : Nat → Nat) {s_0 : Nat → Int32} {im : Nat → Int32} {fr : Nat → Int32} {hd : Nat → Int32} {nw : Nat → Int32} {hh : Nat → Int32} {qs : Nat → Int32} {qz : Nat → Int32} {it : Nat → Int64} {th : Int32} {hm : Int32} {ow : Int32} {lo : Int32} {p1 : Int32} {p2 : Int32} {s' : Nat → Int32} (he : xX8_takesSlots s_0 p1 p2 = some s') : CtV l D k yX8_takesSlots wsX8_takesSlots ({ frames := 0, cells := 0, slots := 0, locals := 0 } : Room) [.ref (g 0), .int p1, .int p2] (wModel k g s_0 im fr hd nw hh qs qz it th hm ow lo) (wModel k g s' im fr hd nw hh qs qz it th hm ow lo) := by
  intro sz9
  refine cSt (lv := [(0, .ref (g 0)), (1, .int p1), (2, .int p2)]) (own := RX8) (cc := cX8_takesSlots) (nL := 4) (ret := none) (by decide +kernel) rfl rfl (Nat.le_of_ble_eq_true rfl) rfl ?_
  intro pp ee ss mm bl me co hsz hC0 hP hD hS ls hl
  subst hsz
  obtain ⟨hx, hb, hr, hml, hown, hts, hK, hlk⟩ := hC0
  have hA : ∀ q, ss.heap.size ≤ q → va_A (wModel k g s_0 im fr hd nw hh qs qz it th hm ow lo) ss.heap.size q := fun q h => Or.inr h
  have iX8 : ∀ w ∈ wsX80, w ∈ wsX8_takesSlots := fun _ h => List.mem_cons_of_mem _ (List.mem_append_right _ h)
  have w1 := hts (.fieldLink RX8 7 "DeadListPoolModel" "s" "[I") (List.mem_of_getElem? (i := 1) rfl)
  have B2 : ∀ (n2 : Nat) (x1 : Int32) (x2 : Int32) (x3 : Int32) (s : Nat → Int32), xX8_takesSlots_2 n2 x1 x2 x3 s = some s' → ∀ (H : Heap) (locs : List Loc), va_P D vwCl (wModel k g s im fr hd nw hh qs qz it th hm ow lo) H → va_D (va_A (wModel k g s_0 im fr hd nw hh qs qz it th hm ow lo) ss.heap.size) (wModel k g s im fr hd nw hh qs qz it th hm ow lo) → va_S (va_A (wModel k g s_0 im fr hd nw hh qs qz it th hm ow lo) ss.heap.size) ss.heap H locs → ∀ ls : Array Slot, lv_has ls 4 [(0, .ref (g 0)), (1, .int x1), (2, .int x2), (3, .int x3)] → W pp l ee ({ frames := 0, cells := 0, slots := 0, locals := 0 } : Room) ss mm ([.ref (g 0), .int p1, .int p2] : List Value).toArray bl me co H locs 0 0 (MQ bl (cQv D k (wModel k g s_0 im fr hd nw hh qs qz it th hm ow lo) ss.heap.size (wModel k g s' im fr hd nw hh qs qz it th hm ow lo)) ([.ref (g 0), .int p1, .int p2] : List Value).toArray ss 0 0 (va_A (wModel k g s_0 im fr hd nw hh qs qz it th hm ow lo) ss.heap.size)) (F0 mm 2 ls []) := by
    intro n2
    induction n2 with
    | zero =>
      intro x1 x2 x3 s he
      exact absurd (show (none : Option ((Nat → Int32))) = some s' from he) (by simp)
    | succ n2 ih2 =>
      intro x1 x2 x3 s he H locs hP hD hS ls hl
      refine lv_iload_n hx hb dX8_takesSlots_2 rfl (lv_at hl 3 rfl) ?_
      refine lv_bipush (v := 12) hx hb dX8_takesSlots_3 (by decide) ?_
      refine lv_icmp_ge (tgt := 42) hx hb dX8_takesSlots_5 (by decide) (fun c1 => ?_) (fun c1 => ?_)
      · have he := ifp he c1
        obtain rfl := some1 he
        exact cRv hx hb hr hlk hK hP hD hS dX8_takesSlots_42
      · have he := ifn he c1
        refine lv_aload_n hx hb dX8_takesSlots_8 rfl (lv_at hl 0 rfl) ?_
        refine va_get (D := D) (ci := 8) (v := .ref (g 1)) (C := RX8) (T := TX8) (N := 13) hx hb hts iX8 hown hK hP 0 rfl rfl 1 (by decide) w1 (fun _ h9 => h9) rfl dX8_takesSlots_9 ?_
        refine lv_bipush (v := 122) hx hb dX8_takesSlots_12 (by decide) ?_
        refine lv_bipush (v := 12) hx hb dX8_takesSlots_14 (by decide) ?_
        refine lv_iload_n hx hb dX8_takesSlots_16 rfl (lv_at hl 1 rfl) ?_
        refine lv_imul hx hb dX8_takesSlots_17 ?_
        refine lv_iadd hx hb dX8_takesSlots_18 ?_
        refine lv_iload_n hx hb dX8_takesSlots_19 rfl (lv_at hl 3 rfl) ?_
        refine lv_iadd hx hb dX8_takesSlots_20 ?_
        refine lv_aload_n hx hb dX8_takesSlots_21 rfl (lv_at hl 0 rfl) ?_
        refine va_get (D := D) (ci := 8) (v := .ref (g 1)) (C := RX8) (T := TX8) (N := 13) hx hb hts iX8 hown hK hP 0 rfl rfl 1 (by decide) w1 (fun _ h9 => h9) rfl dX8_takesSlots_22 ?_
        refine lv_bipush (v := 122) hx hb dX8_takesSlots_25 (by decide) ?_
        refine lv_bipush (v := 12) hx hb dX8_takesSlots_27 (by decide) ?_
        refine lv_iload_n hx hb dX8_takesSlots_29 rfl (lv_at hl 2 rfl) ?_
        refine lv_imul hx hb dX8_takesSlots_30 ?_
        refine lv_iadd hx hb dX8_takesSlots_31 ?_
        refine lv_iload_n hx hb dX8_takesSlots_32 rfl (lv_at hl 3 rfl) ?_
        refine lv_iadd hx hb dX8_takesSlots_33 ?_
        obtain ⟨h2, he⟩ := grd_i he
        refine va_iald hx hb hK hP 1 0 rfl rfl (ix_in h2) dX8_takesSlots_34 ?_
        obtain ⟨h3, he⟩ := grd_i he
        obtain ⟨s4, e5, he⟩ := lt_i he
        refine va_iast hx hb hK hP hD hS 1 0 rfl rfl (ix_in h3) dX8_takesSlots_35 (fun H locs hP hD hS => ?_)
        have hP : va_P D vwCl (wModel k g s4 im fr hd nw hh qs qz it th hm ow lo) H := by rw [e5]; exact hP
        have hD : va_D _ (wModel k g s4 im fr hd nw hh qs qz it th hm ow lo) := va_D_adr (by rw [e5]; rfl) hD
        refine lv_iinc (v := (x3 + 1)) (lv' := [(3, .int (x3 + 1)), (0, .ref (g 0)), (1, .int x1), (2, .int x2)]) hx hb dX8_takesSlots_36 hl (k := 3) rfl rfl (by decide) rfl (fun ls hl => ?_)
        refine lv_goto (tgt := 2) hx hb dX8_takesSlots_39 (by decide) ?_
        exact ih2 x1 x2 (x3 + 1) s4 he H locs hP hD hS ls (lv_sub hl [1, 2, 3, 0] rfl)
  have hS0 := hS
  have key : ∀ (H : Heap) (locs : List Loc), H = ss.heap → locs = [] → va_P D vwCl (wModel k g s_0 im fr hd nw hh qs qz it th hm ow lo) H → va_S (va_A (wModel k g s_0 im fr hd nw hh qs qz it th hm ow lo) ss.heap.size) ss.heap H locs → W pp l ee ({ frames := 0, cells := 0, slots := 0, locals := 0 } : Room) ss mm ([.ref (g 0), .int p1, .int p2] : List Value).toArray bl me co H locs 0 0 (MQ bl (cQv D k (wModel k g s_0 im fr hd nw hh qs qz it th hm ow lo) ss.heap.size (wModel k g s' im fr hd nw hh qs qz it th hm ow lo)) ([.ref (g 0), .int p1, .int p2] : List Value).toArray ss 0 0 (va_A (wModel k g s_0 im fr hd nw hh qs qz it th hm ow lo) ss.heap.size)) (F0 mm 0 ls []) := by
    intro H locs _ _ hP hS
    refine lv_iconst (v := 0) hx hb dX8_takesSlots_0 (by decide) ?_
    refine lv_istore_n (lv' := [(3, .int 0), (0, .ref (g 0)), (1, .int p1), (2, .int p2)]) hx hb dX8_takesSlots_1 rfl hl (by decide) rfl (fun ls hl => ?_)
    exact B2 600 p1 p2 0 s_0 he H locs hP hD hS ls (lv_sub hl [1, 2, 3, 0] rfl)
  exact key ss.heap [] rfl rfl hP hS
theorem kX8_files : yX8_files.cls = RX8 ∧ yX8_files.cls ≠ "java/lang/invoke/MethodHandle" ∧ yX8_files.cls ≠ "java/lang/invoke/VarHandle" ∧ (parseMethodDescriptor yX8_files.desc).map (fun d => d.parameters.length) = some 1 := by decide +kernel
set_option maxRecDepth 100000 in
set_option maxHeartbeats 4000000 in
theorem mX8_files (l : Launch) (D : va_G) (k : Nat → ClassId) (g : Nat → Nat) {s_0 : Nat → Int32} {im : Nat → Int32} {fr : Nat → Int32} {hd : Nat → Int32} {nw : Nat → Int32} {hh : Nat → Int32} {qs : Nat → Int32} {qz : Nat → Int32} {it : Nat → Int64} {th : Int32} {hm : Int32} {ow : Int32} {lo : Int32} {p1 : Int32} {r : Int32} {s' : Nat → Int32} (he : xX8_files s_0 p1 = some (r, s')) : CtI l D k yX8_files wsX8_files ({ frames := 2, cells := 0, slots := 0, locals := 45 } : Room) [.ref (g 0), .int p1] (wModel k g s_0 im fr hd nw hh qs qz it th hm ow lo) r (wModel k g s' im fr hd nw hh qs qz it th hm ow lo) := by
  intro sz9
  refine cSt (lv := [(0, .ref (g 0)), (1, .int p1)]) (own := RX8) (cc := cX8_files) (nL := 3) (ret := (some .int)) (by decide +kernel) rfl rfl (Nat.le_of_ble_eq_true rfl) rfl ?_
  intro pp ee ss mm bl me co hsz hC0 hP hD hS ls hl
  subst hsz
  obtain ⟨hx, hb, hr, hml, hown, hts, hK, hlk⟩ := hC0
  have hA : ∀ q, ss.heap.size ≤ q → va_A (wModel k g s_0 im fr hd nw hh qs qz it th hm ow lo) ss.heap.size q := fun q h => Or.inr h
  have iX8 : ∀ w ∈ wsX80, w ∈ wsX8_files := fun _ h => List.mem_cons_of_mem _ (List.mem_append_right _ h)
  have w2 := hts (.fieldLink RX8 7 "DeadListPoolModel" "s" "[I") (List.mem_of_getElem? (i := 2) rfl)
  have w1 := hts (.constant RX8 74 (1000000000)) (List.mem_of_getElem? (i := 1) rfl)
  have B36 : ∀ (x1 : Int32) (y1 : Int32) (s : Nat → Int32), xX8_files_36 x1 y1 s = some (r, s') → ∀ (H : Heap) (locs : List Loc), va_P D vwCl (wModel k g s im fr hd nw hh qs qz it th hm ow lo) H → va_D (va_A (wModel k g s_0 im fr hd nw hh qs qz it th hm ow lo) ss.heap.size) (wModel k g s im fr hd nw hh qs qz it th hm ow lo) → va_S (va_A (wModel k g s_0 im fr hd nw hh qs qz it th hm ow lo) ss.heap.size) ss.heap H locs → ∀ ls : Array Slot, lv_has ls 3 [(0, .ref (g 0)), (1, .int x1)] → W pp l ee ({ frames := 2, cells := 0, slots := 0, locals := 45 } : Room) ss mm ([.ref (g 0), .int p1] : List Value).toArray bl me co H locs 0 0 (MQ bl (cQi D k (wModel k g s_0 im fr hd nw hh qs qz it th hm ow lo) ss.heap.size r (wModel k g s' im fr hd nw hh qs qz it th hm ow lo)) ([.ref (g 0), .int p1] : List Value).toArray ss 0 0 (va_A (wModel k g s_0 im fr hd nw hh qs qz it th hm ow lo) ss.heap.size)) (F0 mm 36 ls [.int y1, .ref (g 0)]) := by
    intro x1 y1 s he H locs hP hD hS ls hl
    refine lv_aload_n hx hb dX8_files_36 rfl (lv_at hl 0 rfl) ?_
    refine va_get (D := D) (ci := 8) (v := .ref (g 1)) (C := RX8) (T := TX8) (N := 13) hx hb hts iX8 hown hK hP 0 rfl rfl 1 (by decide) w2 (fun _ h9 => h9) rfl dX8_files_37 ?_
    refine lv_iconst (v := 0) hx hb dX8_files_40 (by decide) ?_
    obtain ⟨h1, he⟩ := grd_i he
    refine va_iald hx hb hK hP 1 0 rfl rfl (ix_in h1) dX8_files_41 ?_
    obtain ⟨v2, s3, h4, he⟩ := bn2_i he
    refine cVi (wf := (wModel k g s3 im fr hd nw hh qs qz it th hm ow lo)) (As := [.int y1, .int (s (Int32.toNatClampNeg 0))]) (rest := []) ⟨hx, hb, hml, hown, hts⟩ hK hA hP hD hS (mX8_comes l D k g (s_0 := s) (im := im) (fr := fr) (hd := hd) (nw := nw) (hh := hh) (qs := qs) (qz := qz) (it := it) (th := th) (hm := hm) (ow := ow) (lo := lo) h4) (cwV 2 hts gX8_files_X8_comes rfl rfl rfl kX8_comes ⟨Nat.le_of_ble_eq_true rfl, Nat.le_of_ble_eq_true rfl⟩) [0, 1, 2, 3, 4, 5, 6, 7, 8, 9] rfl rfl rfl [false, false, false, false, false, false, false, false, false, false] trivial 10 rfl (by decide +kernel) rfl 0 rfl rfl rfl hl.1 rfl (Nat.le_of_ble_eq_true rfl) ⟨Nat.le_refl 0, Nat.le_refl 0⟩ dX8_files_42 (fun H locs hP hD hS => ?_)
    refine lv_istore_n (lv' := [(2, .int v2), (0, .ref (g 0)), (1, .int x1)]) hx hb dX8_files_45 rfl hl (by decide) rfl (fun ls hl => ?_)
    refine lv_aload_n hx hb dX8_files_46 rfl (lv_at hl 1 rfl) ?_
    refine va_get (D := D) (ci := 8) (v := .ref (g 1)) (C := RX8) (T := TX8) (N := 13) hx hb hts iX8 hown hK hP 0 rfl rfl 1 (by decide) w2 (fun _ h9 => h9) rfl dX8_files_47 ?_
    refine lv_bipush (v := 82) hx hb dX8_files_50 (by decide) ?_
    refine lv_iload_n hx hb dX8_files_52 rfl (lv_at hl 0 rfl) ?_
    refine lv_iadd hx hb dX8_files_53 ?_
    refine lv_iload_n hx hb dX8_files_54 rfl (lv_at hl 2 rfl) ?_
    obtain ⟨h5, he⟩ := grd_i he
    obtain ⟨s6, e7, he⟩ := lt_i he
    refine va_iast hx hb hK hP hD hS 1 0 rfl rfl (ix_in h5) dX8_files_55 (fun H locs hP hD hS => ?_)
    have hP : va_P D vwCl (wModel k g s6 im fr hd nw hh qs qz it th hm ow lo) H := by rw [e7]; exact hP
    have hD : va_D _ (wModel k g s6 im fr hd nw hh qs qz it th hm ow lo) := va_D_adr (by rw [e7]; rfl) hD
    refine lv_iload_n hx hb dX8_files_56 rfl (lv_at hl 0 rfl) ?_
    obtain ⟨rfl, rfl⟩ := some2 he
    exact cRi hx hb hr hlk hK rfl hP hD hS dX8_files_57
  have hS0 := hS
  have key : ∀ (H : Heap) (locs : List Loc), H = ss.heap → locs = [] → va_P D vwCl (wModel k g s_0 im fr hd nw hh qs qz it th hm ow lo) H → va_S (va_A (wModel k g s_0 im fr hd nw hh qs qz it th hm ow lo) ss.heap.size) ss.heap H locs → W pp l ee ({ frames := 2, cells := 0, slots := 0, locals := 45 } : Room) ss mm ([.ref (g 0), .int p1] : List Value).toArray bl me co H locs 0 0 (MQ bl (cQi D k (wModel k g s_0 im fr hd nw hh qs qz it th hm ow lo) ss.heap.size r (wModel k g s' im fr hd nw hh qs qz it th hm ow lo)) ([.ref (g 0), .int p1] : List Value).toArray ss 0 0 (va_A (wModel k g s_0 im fr hd nw hh qs qz it th hm ow lo) ss.heap.size)) (F0 mm 0 ls []) := by
    intro H locs _ _ hP hS
    refine lv_iload_n hx hb dX8_files_0 rfl (lv_at hl 1 rfl) ?_
    refine lv_iconst (v := (-1)) hx hb dX8_files_1 (by decide) ?_
    refine lv_ldc hx hb hown w1 dX8_files_2 ?_
    obtain ⟨v1001, h1002, he⟩ := bn1_i he
    refine cSi (rest := []) ⟨hx, hb, hml, hown, hts⟩ hK hA hP hD hS (mX8_in l D k h1002) (cwS 3 hts gX8_files_X8_in rfl rfl rfl kX8_in ⟨Nat.le_of_ble_eq_true rfl, Nat.le_of_ble_eq_true rfl⟩) rfl hl.1 rfl (Nat.le_of_ble_eq_true rfl) ⟨Nat.le_refl 0, Nat.le_refl 0⟩ dX8_files_4 (fun H locs hP hD hS => ?_)
    refine lv_if_ne (tgt := 13) hx hb dX8_files_7 (by decide) (fun c1003 => ?_) (fun c1003 => ?_)
    · have he := ifn he c1003
      refine lv_aload_n hx hb dX8_files_13 rfl (lv_at hl 0 rfl) ?_
      obtain ⟨v1004, h1005, he⟩ := bn1_i he
      refine cVir (As := []) (rest := []) ⟨hx, hb, hml, hown, hts⟩ hK hA hP hD hS (mX8_newThing l D k g (s := s_0) (im := im) (fr := fr) (hd := hd) (nw := nw) (hh := hh) (qs := qs) (qz := qz) (it := it) (th := th) (hm := hm) (ow := ow) (lo := lo) h1005) (cwV 0 hts gX8_files_X8_newThing rfl rfl rfl kX8_newThing ⟨Nat.le_of_ble_eq_true rfl, Nat.le_of_ble_eq_true rfl⟩) [0, 1, 2, 3, 4, 5, 6, 7, 8, 9] rfl rfl 0 rfl rfl rfl hl.1 rfl (Nat.le_of_ble_eq_true rfl) ⟨Nat.le_refl 0, Nat.le_refl 0⟩ dX8_files_14 (fun H locs hP hD hS => ?_)
      refine lv_bipush (v := 20) hx hb dX8_files_17 (by decide) ?_
      refine lv_icmp_ne (tgt := 25) hx hb dX8_files_19 (by decide) (fun c1006 => ?_) (fun c1006 => ?_)
      · have he := ifn he c1006
        refine lv_aload_n hx hb dX8_files_25 rfl (lv_at hl 0 rfl) ?_
        refine lv_iload_n hx hb dX8_files_26 rfl (lv_at hl 1 rfl) ?_
        refine lv_iconst (v := (-1)) hx hb dX8_files_27 (by decide) ?_
        refine lv_icmp_ne (tgt := 35) hx hb dX8_files_28 (by decide) (fun c1007 => ?_) (fun c1007 => ?_)
        · have he := ifn he c1007
          refine lv_iconst (v := 1) hx hb dX8_files_35 (by decide) ?_
          exact B36 p1 1 s_0 he H locs hP hD hS ls (lv_sub hl [0, 1] rfl)
        · have he := ifp he c1007
          refine lv_iconst (v := 0) hx hb dX8_files_31 (by decide) ?_
          refine lv_goto (tgt := 36) hx hb dX8_files_32 (by decide) ?_
          exact B36 p1 0 s_0 he H locs hP hD hS ls (lv_sub hl [0, 1] rfl)
      · have he := ifp he c1006
        refine lv_bipush (v := (-4)) hx hb dX8_files_22 (by decide) ?_
        obtain ⟨rfl, rfl⟩ := some2 he
        exact cRi hx hb hr hlk hK rfl hP hD hS dX8_files_24
    · have he := ifp he c1003
      refine lv_bipush (v := (-2)) hx hb dX8_files_10 (by decide) ?_
      obtain ⟨rfl, rfl⟩ := some2 he
      exact cRi hx hb hr hlk hK rfl hP hD hS dX8_files_12
  exact key ss.heap [] rfl rfl hP hS
theorem kX8_spaceOf : yX8_spaceOf.cls = RX8 ∧ yX8_spaceOf.cls ≠ "java/lang/invoke/MethodHandle" ∧ yX8_spaceOf.cls ≠ "java/lang/invoke/VarHandle" ∧ (parseMethodDescriptor yX8_spaceOf.desc).map (fun d => d.parameters.length) = some 1 := by decide +kernel
set_option maxRecDepth 100000 in
set_option maxHeartbeats 4000000 in
theorem mX8_spaceOf (l : Launch) (D : va_G) (k : Nat → ClassId) (g : Nat → Nat) {s : Nat → Int32} {im : Nat → Int32} {fr : Nat → Int32} {hd : Nat → Int32} {nw : Nat → Int32} {hh : Nat → Int32} {qs : Nat → Int32} {qz : Nat → Int32} {it : Nat → Int64} {th : Int32} {hm : Int32} {ow : Int32} {lo : Int32} {p1 : Int32} {r : Int64}  (he : xX8_spaceOf s p1 = some r) : CtL l D k yX8_spaceOf wsX8_spaceOf ({ frames := 0, cells := 0, slots := 0, locals := 0 } : Room) [.ref (g 0), .int p1] (wModel k g s im fr hd nw hh qs qz it th hm ow lo) r (wModel k g s im fr hd nw hh qs qz it th hm ow lo) := by
  intro sz9
  refine cSt (lv := [(0, .ref (g 0)), (1, .int p1)]) (own := RX8) (cc := cX8_spaceOf) (nL := 6) (ret := (some .long)) (by decide +kernel) rfl rfl (Nat.le_of_ble_eq_true rfl) rfl ?_
  intro pp ee ss mm bl me co hsz hC0 hP hD hS ls hl
  subst hsz
  obtain ⟨hx, hb, hr, hml, hown, hts, hK, hlk⟩ := hC0
  have hA : ∀ q, ss.heap.size ≤ q → va_A (wModel k g s im fr hd nw hh qs qz it th hm ow lo) ss.heap.size q := fun q h => Or.inr h
  have iX8 : ∀ w ∈ wsX80, w ∈ wsX8_spaceOf := fun _ h => List.mem_cons_of_mem _ (List.mem_append_right _ h)
  have w1 := hts (.fieldLink RX8 7 "DeadListPoolModel" "s" "[I") (List.mem_of_getElem? (i := 1) rfl)
  have B5 : ∀ (n5 : Nat) (x1 : Int32) (x2 : Int64) (x4 : Int32), xX8_spaceOf_5 s n5 x1 x2 x4 = some r → ∀ (H : Heap) (locs : List Loc), va_P D vwCl (wModel k g s im fr hd nw hh qs qz it th hm ow lo) H → va_D (va_A (wModel k g s im fr hd nw hh qs qz it th hm ow lo) ss.heap.size) (wModel k g s im fr hd nw hh qs qz it th hm ow lo) → va_S (va_A (wModel k g s im fr hd nw hh qs qz it th hm ow lo) ss.heap.size) ss.heap H locs → ∀ ls : Array Slot, lv_has ls 6 [(0, .ref (g 0)), (1, .int x1), (2, .long x2), (4, .int x4)] → W pp l ee ({ frames := 0, cells := 0, slots := 0, locals := 0 } : Room) ss mm ([.ref (g 0), .int p1] : List Value).toArray bl me co H locs 0 0 (MQ bl (cQl D k (wModel k g s im fr hd nw hh qs qz it th hm ow lo) ss.heap.size r (wModel k g s im fr hd nw hh qs qz it th hm ow lo)) ([.ref (g 0), .int p1] : List Value).toArray ss 0 0 (va_A (wModel k g s im fr hd nw hh qs qz it th hm ow lo) ss.heap.size)) (F0 mm 5 ls []) := by
    intro n5
    induction n5 with
    | zero =>
      intro x1 x2 x4 he
      exact absurd (show (none : Option (Int64)) = some r from he) (by simp)
    | succ n5 ih5 =>
      intro x1 x2 x4 he H locs hP hD hS ls hl
      refine lv_iload hx hb dX8_spaceOf_5 (lv_at hl 3 rfl) ?_
      refine lv_bipush (v := 12) hx hb dX8_spaceOf_7 (by decide) ?_
      refine lv_icmp_ge (tgt := 60) hx hb dX8_spaceOf_9 (by decide) (fun c1 => ?_) (fun c1 => ?_)
      · have he := ifp he c1
        refine lv_lload_n hx hb dX8_spaceOf_60 rfl (lv_at hl 2 rfl) ?_
        obtain rfl := some1 he
        exact cRl hx hb hr hlk hK hP hD hS dX8_spaceOf_61
      · have he := ifn he c1
        refine lv_aload_n hx hb dX8_spaceOf_12 rfl (lv_at hl 0 rfl) ?_
        refine va_get (D := D) (ci := 8) (v := .ref (g 1)) (C := RX8) (T := TX8) (N := 13) hx hb hts iX8 hown hK hP 0 rfl rfl 1 (by decide) w1 (fun _ h9 => h9) rfl dX8_spaceOf_13 ?_
        refine lv_bipush (v := 122) hx hb dX8_spaceOf_16 (by decide) ?_
        refine lv_bipush (v := 12) hx hb dX8_spaceOf_18 (by decide) ?_
        refine lv_iload_n hx hb dX8_spaceOf_20 rfl (lv_at hl 1 rfl) ?_
        refine lv_imul hx hb dX8_spaceOf_21 ?_
        refine lv_iadd hx hb dX8_spaceOf_22 ?_
        refine lv_iload hx hb dX8_spaceOf_23 (lv_at hl 3 rfl) ?_
        refine lv_iadd hx hb dX8_spaceOf_25 ?_
        obtain ⟨h2, he⟩ := grd_i he
        refine va_iald hx hb hK hP 1 0 rfl rfl (ix_in h2) dX8_spaceOf_26 ?_
        refine lv_istore (lv' := [(5, .int (s (Int32.toNatClampNeg ((122 + (12 * x1)) + x4)))), (0, .ref (g 0)), (1, .int x1), (2, .long x2), (4, .int x4)]) hx hb dX8_spaceOf_27 hl (by decide) rfl (fun ls hl => ?_)
        refine lv_lload_n hx hb dX8_spaceOf_29 rfl (lv_at hl 3 rfl) ?_
        refine lv_iload hx hb dX8_spaceOf_30 (lv_at hl 0 rfl) ?_
        refine lv_iconst (v := (-1)) hx hb dX8_spaceOf_32 (by decide) ?_
        refine lv_icmp_ne (tgt := 40) hx hb dX8_spaceOf_33 (by decide) (fun c3 => ?_) (fun c3 => ?_)
        · have he := ifn he c3
          refine lv_aload_n hx hb dX8_spaceOf_40 rfl (lv_at hl 1 rfl) ?_
          refine va_get (D := D) (ci := 8) (v := .ref (g 1)) (C := RX8) (T := TX8) (N := 13) hx hb hts iX8 hown hK hP 0 rfl rfl 1 (by decide) w1 (fun _ h9 => h9) rfl dX8_spaceOf_41 ?_
          refine lv_sipush (v := 362) hx hb dX8_spaceOf_44 (by decide) ?_
          refine lv_iload hx hb dX8_spaceOf_47 (lv_at hl 0 rfl) ?_
          refine lv_iadd hx hb dX8_spaceOf_49 ?_
          obtain ⟨h4, he⟩ := grd_i he
          refine va_iald hx hb hK hP 1 0 rfl rfl (ix_in h4) dX8_spaceOf_50 ?_
          refine lv_i2l (v := (Int32.toInt64 (s (Int32.toNatClampNeg (362 + (s (Int32.toNatClampNeg ((122 + (12 * x1)) + x4)))))))) hx hb dX8_spaceOf_51 rfl ?_
          refine lv_ladd hx hb dX8_spaceOf_52 ?_
          refine lv_lstore_n (lv' := [(2, .long (x2 + (Int32.toInt64 (s (Int32.toNatClampNeg (362 + (s (Int32.toNatClampNeg ((122 + (12 * x1)) + x4))))))))), (5, .int (s (Int32.toNatClampNeg ((122 + (12 * x1)) + x4)))), (0, .ref (g 0)), (1, .int x1), (4, .int x4)]) hx hb dX8_spaceOf_53 rfl hl (by decide) rfl (fun ls hl => ?_)
          refine lv_iinc (v := (x4 + 1)) (lv' := [(4, .int (x4 + 1)), (2, .long (x2 + (Int32.toInt64 (s (Int32.toNatClampNeg (362 + (s (Int32.toNatClampNeg ((122 + (12 * x1)) + x4))))))))), (5, .int (s (Int32.toNatClampNeg ((122 + (12 * x1)) + x4)))), (0, .ref (g 0)), (1, .int x1)]) hx hb dX8_spaceOf_54 hl (k := 4) rfl rfl (by decide) rfl (fun ls hl => ?_)
          refine lv_goto (tgt := 5) hx hb dX8_spaceOf_57 (by decide) ?_
          exact ih5 x1 (x2 + (Int32.toInt64 (s (Int32.toNatClampNeg (362 + (s (Int32.toNatClampNeg ((122 + (12 * x1)) + x4)))))))) (x4 + 1) he H locs hP hD hS ls (lv_sub hl [3, 4, 1, 0] rfl)
        · have he := ifp he c3
          refine lv_lconst (v := 0) hx hb dX8_spaceOf_36 (by decide) ?_
          refine lv_goto (tgt := 52) hx hb dX8_spaceOf_37 (by decide) ?_
          refine lv_ladd hx hb dX8_spaceOf_52 ?_
          refine lv_lstore_n (lv' := [(2, .long (x2 + 0)), (5, .int (s (Int32.toNatClampNeg ((122 + (12 * x1)) + x4)))), (0, .ref (g 0)), (1, .int x1), (4, .int x4)]) hx hb dX8_spaceOf_53 rfl hl (by decide) rfl (fun ls hl => ?_)
          refine lv_iinc (v := (x4 + 1)) (lv' := [(4, .int (x4 + 1)), (2, .long (x2 + 0)), (5, .int (s (Int32.toNatClampNeg ((122 + (12 * x1)) + x4)))), (0, .ref (g 0)), (1, .int x1)]) hx hb dX8_spaceOf_54 hl (k := 4) rfl rfl (by decide) rfl (fun ls hl => ?_)
          refine lv_goto (tgt := 5) hx hb dX8_spaceOf_57 (by decide) ?_
          exact ih5 x1 (x2 + 0) (x4 + 1) he H locs hP hD hS ls (lv_sub hl [3, 4, 1, 0] rfl)
  have hS0 := hS
  have key : ∀ (H : Heap) (locs : List Loc), H = ss.heap → locs = [] → va_P D vwCl (wModel k g s im fr hd nw hh qs qz it th hm ow lo) H → va_S (va_A (wModel k g s im fr hd nw hh qs qz it th hm ow lo) ss.heap.size) ss.heap H locs → W pp l ee ({ frames := 0, cells := 0, slots := 0, locals := 0 } : Room) ss mm ([.ref (g 0), .int p1] : List Value).toArray bl me co H locs 0 0 (MQ bl (cQl D k (wModel k g s im fr hd nw hh qs qz it th hm ow lo) ss.heap.size r (wModel k g s im fr hd nw hh qs qz it th hm ow lo)) ([.ref (g 0), .int p1] : List Value).toArray ss 0 0 (va_A (wModel k g s im fr hd nw hh qs qz it th hm ow lo) ss.heap.size)) (F0 mm 0 ls []) := by
    intro H locs _ _ hP hS
    refine lv_lconst (v := 0) hx hb dX8_spaceOf_0 (by decide) ?_
    refine lv_lstore_n (lv' := [(2, .long 0), (0, .ref (g 0)), (1, .int p1)]) hx hb dX8_spaceOf_1 rfl hl (by decide) rfl (fun ls hl => ?_)
    refine lv_iconst (v := 0) hx hb dX8_spaceOf_2 (by decide) ?_
    refine lv_istore (lv' := [(4, .int 0), (2, .long 0), (0, .ref (g 0)), (1, .int p1)]) hx hb dX8_spaceOf_3 hl (by decide) rfl (fun ls hl => ?_)
    exact B5 600 p1 0 0 he H locs hP hD hS ls (lv_sub hl [2, 3, 1, 0] rfl)
  exact key ss.heap [] rfl rfl hP hS
theorem kX8_sizeIn : yX8_sizeIn.cls = RX8 ∧ yX8_sizeIn.cls ≠ "java/lang/invoke/MethodHandle" ∧ yX8_sizeIn.cls ≠ "java/lang/invoke/VarHandle" ∧ (parseMethodDescriptor yX8_sizeIn.desc).map (fun d => d.parameters.length) = some 2 := by decide +kernel
set_option maxRecDepth 100000 in
set_option maxHeartbeats 4000000 in
theorem mX8_sizeIn (l : Launch) (D : va_G) (k : Nat → ClassId) (g : Nat → Nat) {s : Nat → Int32} {im : Nat → Int32} {fr : Nat → Int32} {hd : Nat → Int32} {nw : Nat → Int32} {hh : Nat → Int32} {qs : Nat → Int32} {qz : Nat → Int32} {it : Nat → Int64} {th : Int32} {hm : Int32} {ow : Int32} {lo : Int32} {p1 : Int32} {p2 : Int32} {r : Int32}  (he : xX8_sizeIn s p1 p2 = some r) : CtI l D k yX8_sizeIn wsX8_sizeIn ({ frames := 0, cells := 0, slots := 0, locals := 0 } : Room) [.ref (g 0), .int p1, .int p2] (wModel k g s im fr hd nw hh qs qz it th hm ow lo) r (wModel k g s im fr hd nw hh qs qz it th hm ow lo) := by
  intro sz9
  refine cSt (lv := [(0, .ref (g 0)), (1, .int p1), (2, .int p2)]) (own := RX8) (cc := cX8_sizeIn) (nL := 4) (ret := (some .int)) (by decide +kernel) rfl rfl (Nat.le_of_ble_eq_true rfl) rfl ?_
  intro pp ee ss mm bl me co hsz hC0 hP hD hS ls hl
  subst hsz
  obtain ⟨hx, hb, hr, hml, hown, hts, hK, hlk⟩ := hC0
  have hA : ∀ q, ss.heap.size ≤ q → va_A (wModel k g s im fr hd nw hh qs qz it th hm ow lo) ss.heap.size q := fun q h => Or.inr h
  have iX8 : ∀ w ∈ wsX80, w ∈ wsX8_sizeIn := fun _ h => List.mem_cons_of_mem _ (List.mem_append_right _ h)
  have w1 := hts (.fieldLink RX8 7 "DeadListPoolModel" "s" "[I") (List.mem_of_getElem? (i := 1) rfl)
  have hS0 := hS
  have key : ∀ (H : Heap) (locs : List Loc), H = ss.heap → locs = [] → va_P D vwCl (wModel k g s im fr hd nw hh qs qz it th hm ow lo) H → va_S (va_A (wModel k g s im fr hd nw hh qs qz it th hm ow lo) ss.heap.size) ss.heap H locs → W pp l ee ({ frames := 0, cells := 0, slots := 0, locals := 0 } : Room) ss mm ([.ref (g 0), .int p1, .int p2] : List Value).toArray bl me co H locs 0 0 (MQ bl (cQi D k (wModel k g s im fr hd nw hh qs qz it th hm ow lo) ss.heap.size r (wModel k g s im fr hd nw hh qs qz it th hm ow lo)) ([.ref (g 0), .int p1, .int p2] : List Value).toArray ss 0 0 (va_A (wModel k g s im fr hd nw hh qs qz it th hm ow lo) ss.heap.size)) (F0 mm 0 ls []) := by
    intro H locs _ _ hP hS
    refine lv_aload_n hx hb dX8_sizeIn_0 rfl (lv_at hl 0 rfl) ?_
    refine va_get (D := D) (ci := 8) (v := .ref (g 1)) (C := RX8) (T := TX8) (N := 13) hx hb hts iX8 hown hK hP 0 rfl rfl 1 (by decide) w1 (fun _ h9 => h9) rfl dX8_sizeIn_1 ?_
    refine lv_bipush (v := 122) hx hb dX8_sizeIn_4 (by decide) ?_
    refine lv_bipush (v := 12) hx hb dX8_sizeIn_6 (by decide) ?_
    refine lv_iload_n hx hb dX8_sizeIn_8 rfl (lv_at hl 1 rfl) ?_
    refine lv_imul hx hb dX8_sizeIn_9 ?_
    refine lv_iadd hx hb dX8_sizeIn_10 ?_
    refine lv_iload_n hx hb dX8_sizeIn_11 rfl (lv_at hl 2 rfl) ?_
    refine lv_iadd hx hb dX8_sizeIn_12 ?_
    obtain ⟨h1001, he⟩ := grd_i he
    refine va_iald hx hb hK hP 1 0 rfl rfl (ix_in h1001) dX8_sizeIn_13 ?_
    refine lv_istore_n (lv' := [(3, .int (s (Int32.toNatClampNeg ((122 + (12 * p1)) + p2)))), (0, .ref (g 0)), (1, .int p1), (2, .int p2)]) hx hb dX8_sizeIn_14 rfl hl (by decide) rfl (fun ls hl => ?_)
    refine lv_iload_n hx hb dX8_sizeIn_15 rfl (lv_at hl 0 rfl) ?_
    refine lv_iconst (v := (-1)) hx hb dX8_sizeIn_16 (by decide) ?_
    refine lv_icmp_ne (tgt := 24) hx hb dX8_sizeIn_17 (by decide) (fun c1002 => ?_) (fun c1002 => ?_)
    · have he := ifn he c1002
      refine lv_aload_n hx hb dX8_sizeIn_24 rfl (lv_at hl 1 rfl) ?_
      refine va_get (D := D) (ci := 8) (v := .ref (g 1)) (C := RX8) (T := TX8) (N := 13) hx hb hts iX8 hown hK hP 0 rfl rfl 1 (by decide) w1 (fun _ h9 => h9) rfl dX8_sizeIn_25 ?_
      refine lv_sipush (v := 362) hx hb dX8_sizeIn_28 (by decide) ?_
      refine lv_iload_n hx hb dX8_sizeIn_31 rfl (lv_at hl 0 rfl) ?_
      refine lv_iadd hx hb dX8_sizeIn_32 ?_
      obtain ⟨h1003, he⟩ := grd_i he
      refine va_iald hx hb hK hP 1 0 rfl rfl (ix_in h1003) dX8_sizeIn_33 ?_
      obtain rfl := some1 he
      exact cRi hx hb hr hlk hK rfl hP hD hS dX8_sizeIn_34
    · have he := ifp he c1002
      refine lv_iconst (v := 0) hx hb dX8_sizeIn_20 (by decide) ?_
      refine lv_goto (tgt := 34) hx hb dX8_sizeIn_21 (by decide) ?_
      obtain rfl := some1 he
      exact cRi hx hb hr hlk hK rfl hP hD hS dX8_sizeIn_34
  exact key ss.heap [] rfl rfl hP hS
theorem kX8_written : yX8_written.cls = RX8 ∧ yX8_written.cls ≠ "java/lang/invoke/MethodHandle" ∧ yX8_written.cls ≠ "java/lang/invoke/VarHandle" ∧ (parseMethodDescriptor yX8_written.desc).map (fun d => d.parameters.length) = some 3 := by decide +kernel
set_option maxRecDepth 100000 in
set_option maxHeartbeats 4000000 in
theorem mX8_written (l : Launch) (D : va_G) (k : Nat → ClassId) (g : Nat → Nat) {s_0 : Nat → Int32} {im : Nat → Int32} {fr : Nat → Int32} {hd_0 : Nat → Int32} {nw : Nat → Int32} {hh : Nat → Int32} {qs : Nat → Int32} {qz : Nat → Int32} {it : Nat → Int64} {th : Int32} {hm : Int32} {ow : Int32} {lo : Int32} {p1 : Int32} {p2 : Int32} {p3 : Int32} {r : Int32} {s' : Nat → Int32} {hd' : Nat → Int32} (he : xX8_written s_0 hd_0 p1 p2 p3 = some (r, s', hd')) : CtI l D k yX8_written wsX8_written ({ frames := 6, cells := 0, slots := 0, locals := 130 } : Room) [.ref (g 0), .int p1, .int p2, .int p3] (wModel k g s_0 im fr hd_0 nw hh qs qz it th hm ow lo) r (wModel k g s' im fr hd' nw hh qs qz it th hm ow lo) := by
  intro sz9
  refine cSt (lv := [(0, .ref (g 0)), (1, .int p1), (2, .int p2), (3, .int p3)]) (own := RX8) (cc := cX8_written) (nL := 6) (ret := (some .int)) (by decide +kernel) rfl rfl (Nat.le_of_ble_eq_true rfl) rfl ?_
  intro pp ee ss mm bl me co hsz hC0 hP hD hS ls hl
  subst hsz
  obtain ⟨hx, hb, hr, hml, hown, hts, hK, hlk⟩ := hC0
  have hA : ∀ q, ss.heap.size ≤ q → va_A (wModel k g s_0 im fr hd_0 nw hh qs qz it th hm ow lo) ss.heap.size q := fun q h => Or.inr h
  have iX8 : ∀ w ∈ wsX80, w ∈ wsX8_written := fun _ h => List.mem_cons_of_mem _ (List.mem_append_right _ h)
  have w1 := hts (.fieldLink RX8 7 "DeadListPoolModel" "s" "[I") (List.mem_of_getElem? (i := 1) rfl)
  have B53 : ∀ (x1 : Int32) (x2 : Int32) (x3 : Int32) (x4 : Int32) (y0 : Int32) (s : Nat → Int32) (hd : Nat → Int32), xX8_written_53 x1 x2 x3 x4 y0 s hd = some (r, s', hd') → ∀ (H : Heap) (locs : List Loc), va_P D vwCl (wModel k g s im fr hd nw hh qs qz it th hm ow lo) H → va_D (va_A (wModel k g s_0 im fr hd_0 nw hh qs qz it th hm ow lo) ss.heap.size) (wModel k g s im fr hd nw hh qs qz it th hm ow lo) → va_S (va_A (wModel k g s_0 im fr hd_0 nw hh qs qz it th hm ow lo) ss.heap.size) ss.heap H locs → ∀ ls : Array Slot, lv_has ls 6 [(0, .ref (g 0)), (1, .int x1), (2, .int x2), (3, .int x3), (4, .int x4)] → W pp l ee ({ frames := 6, cells := 0, slots := 0, locals := 130 } : Room) ss mm ([.ref (g 0), .int p1, .int p2, .int p3] : List Value).toArray bl me co H locs 0 0 (MQ bl (cQi D k (wModel k g s_0 im fr hd_0 nw hh qs qz it th hm ow lo) ss.heap.size r (wModel k g s' im fr hd' nw hh qs qz it th hm ow lo)) ([.ref (g 0), .int p1, .int p2, .int p3] : List Value).toArray ss 0 0 (va_A (wModel k g s_0 im fr hd_0 nw hh qs qz it th hm ow lo) ss.heap.size)) (F0 mm 53 ls [.int y0]) := by
    intro x1 x2 x3 x4 y0 s hd he H locs hP hD hS ls hl
    refine lv_istore (lv' := [(5, .int y0), (0, .ref (g 0)), (1, .int x1), (2, .int x2), (3, .int x3), (4, .int x4)]) hx hb dX8_written_53 hl (by decide) rfl (fun ls hl => ?_)
    refine lv_iload hx hb dX8_written_55 (lv_at hl 5 rfl) ?_
    refine lv_bipush (v := 96) hx hb dX8_written_57 (by decide) ?_
    refine lv_icmp_eq (tgt := 67) hx hb dX8_written_59 (by decide) (fun c1 => ?_) (fun c1 => ?_)
    · have he := ifp he c1
      refine lv_bipush (v := (-4)) hx hb dX8_written_67 (by decide) ?_
      obtain ⟨rfl, rfl, rfl⟩ := some3 he
      exact cRi hx hb hr hlk hK rfl hP hD hS dX8_written_69
    · have he := ifn he c1
      refine lv_iload hx hb dX8_written_62 (lv_at hl 0 rfl) ?_
      refine lv_if_eq (tgt := 70) hx hb dX8_written_64 (by decide) (fun c2 => ?_) (fun c2 => ?_)
      · have he := ifp he c2
        refine lv_aload_n hx hb dX8_written_70 rfl (lv_at hl 1 rfl) ?_
        refine va_get (D := D) (ci := 8) (v := .ref (g 1)) (C := RX8) (T := TX8) (N := 13) hx hb hts iX8 hown hK hP 0 rfl rfl 1 (by decide) w1 (fun _ h9 => h9) rfl dX8_written_71 ?_
        refine lv_sipush (v := 362) hx hb dX8_written_74 (by decide) ?_
        refine lv_iload hx hb dX8_written_77 (lv_at hl 5 rfl) ?_
        refine lv_iadd hx hb dX8_written_79 ?_
        refine lv_iload_n hx hb dX8_written_80 rfl (lv_at hl 4 rfl) ?_
        obtain ⟨h3, he⟩ := grd_i he
        obtain ⟨s4, e5, he⟩ := lt_i he
        refine va_iast hx hb hK hP hD hS 1 0 rfl rfl (ix_in h3) dX8_written_81 (fun H locs hP hD hS => ?_)
        have hP : va_P D vwCl (wModel k g s4 im fr hd nw hh qs qz it th hm ow lo) H := by rw [e5]; exact hP
        have hD : va_D _ (wModel k g s4 im fr hd nw hh qs qz it th hm ow lo) := va_D_adr (by rw [e5]; rfl) hD
        refine lv_aload_n hx hb dX8_written_82 rfl (lv_at hl 1 rfl) ?_
        refine va_get (D := D) (ci := 8) (v := .ref (g 1)) (C := RX8) (T := TX8) (N := 13) hx hb hts iX8 hown hK hP 0 rfl rfl 1 (by decide) w1 (fun _ h9 => h9) rfl dX8_written_83 ?_
        refine lv_sipush (v := 458) hx hb dX8_written_86 (by decide) ?_
        refine lv_iload hx hb dX8_written_89 (lv_at hl 5 rfl) ?_
        refine lv_iadd hx hb dX8_written_91 ?_
        refine lv_aload_n hx hb dX8_written_92 rfl (lv_at hl 1 rfl) ?_
        refine va_get (D := D) (ci := 8) (v := .ref (g 1)) (C := RX8) (T := TX8) (N := 13) hx hb hts iX8 hown hK hP 0 rfl rfl 1 (by decide) w1 (fun _ h9 => h9) rfl dX8_written_93 ?_
        refine lv_iconst (v := 0) hx hb dX8_written_96 (by decide) ?_
        obtain ⟨h6, he⟩ := grd_i he
        refine va_iald hx hb hK hP 1 0 rfl rfl (ix_in h6) dX8_written_97 ?_
        obtain ⟨h7, he⟩ := grd_i he
        obtain ⟨s8, e9, he⟩ := lt_i he
        refine va_iast hx hb hK hP hD hS 1 0 rfl rfl (ix_in h7) dX8_written_98 (fun H locs hP hD hS => ?_)
        have hP : va_P D vwCl (wModel k g s8 im fr hd nw hh qs qz it th hm ow lo) H := by rw [e9]; exact hP
        have hD : va_D _ (wModel k g s8 im fr hd nw hh qs qz it th hm ow lo) := va_D_adr (by rw [e9]; rfl) hD
        refine lv_aload_n hx hb dX8_written_99 rfl (lv_at hl 1 rfl) ?_
        refine va_get (D := D) (ci := 8) (v := .ref (g 1)) (C := RX8) (T := TX8) (N := 13) hx hb hts iX8 hown hK hP 0 rfl rfl 1 (by decide) w1 (fun _ h9 => h9) rfl dX8_written_100 ?_
        refine lv_bipush (v := 122) hx hb dX8_written_103 (by decide) ?_
        refine lv_bipush (v := 12) hx hb dX8_written_105 (by decide) ?_
        refine lv_iload_n hx hb dX8_written_107 rfl (lv_at hl 2 rfl) ?_
        refine lv_imul hx hb dX8_written_108 ?_
        refine lv_iadd hx hb dX8_written_109 ?_
        refine lv_iload_n hx hb dX8_written_110 rfl (lv_at hl 3 rfl) ?_
        refine lv_iadd hx hb dX8_written_111 ?_
        refine lv_iload hx hb dX8_written_112 (lv_at hl 5 rfl) ?_
        obtain ⟨h10, he⟩ := grd_i he
        obtain ⟨s11, e12, he⟩ := lt_i he
        refine va_iast hx hb hK hP hD hS 1 0 rfl rfl (ix_in h10) dX8_written_114 (fun H locs hP hD hS => ?_)
        have hP : va_P D vwCl (wModel k g s11 im fr hd nw hh qs qz it th hm ow lo) H := by rw [e12]; exact hP
        have hD : va_D _ (wModel k g s11 im fr hd nw hh qs qz it th hm ow lo) := va_D_adr (by rw [e12]; rfl) hD
        refine lv_aload_n hx hb dX8_written_115 rfl (lv_at hl 1 rfl) ?_
        obtain ⟨v13, s14, hd15, h16, he⟩ := bn3_i he
        refine cVi (wf := (wModel k g s14 im fr hd15 nw hh qs qz it th hm ow lo)) (As := []) (rest := []) ⟨hx, hb, hml, hown, hts⟩ hK hA hP hD hS (mX8_frees l D k g (s_0 := s11) (im := im) (fr := fr) (hd_0 := hd) (nw := nw) (hh := hh) (qs := qs) (qz := qz) (it := it) (th := th) (hm := hm) (ow := ow) (lo := lo) h16) (cwV 0 hts gX8_written_X8_frees rfl rfl rfl kX8_frees ⟨Nat.le_of_ble_eq_true rfl, Nat.le_of_ble_eq_true rfl⟩) [0, 1, 2, 3, 4, 5, 6, 7, 8, 9] rfl rfl rfl [false, false, false, false, false, false, false, false, false, false] trivial 10 rfl (by decide +kernel) rfl 0 rfl rfl rfl hl.1 rfl (Nat.le_of_ble_eq_true rfl) ⟨Nat.le_refl 0, Nat.le_refl 0⟩ dX8_written_116 (fun H locs hP hD hS => ?_)
        refine lv_pop hx hb dX8_written_119 rfl ?_
        refine lv_iload hx hb dX8_written_120 (lv_at hl 5 rfl) ?_
        obtain ⟨rfl, rfl, rfl⟩ := some3 he
        exact cRi hx hb hr hlk hK rfl hP hD hS dX8_written_122
      · have he := ifn he c2
        refine lv_bipush (v := (-4)) hx hb dX8_written_67 (by decide) ?_
        obtain ⟨rfl, rfl, rfl⟩ := some3 he
        exact cRi hx hb hr hlk hK rfl hP hD hS dX8_written_69
  have hS0 := hS
  have key : ∀ (H : Heap) (locs : List Loc), H = ss.heap → locs = [] → va_P D vwCl (wModel k g s_0 im fr hd_0 nw hh qs qz it th hm ow lo) H → va_S (va_A (wModel k g s_0 im fr hd_0 nw hh qs qz it th hm ow lo) ss.heap.size) ss.heap H locs → W pp l ee ({ frames := 6, cells := 0, slots := 0, locals := 130 } : Room) ss mm ([.ref (g 0), .int p1, .int p2, .int p3] : List Value).toArray bl me co H locs 0 0 (MQ bl (cQi D k (wModel k g s_0 im fr hd_0 nw hh qs qz it th hm ow lo) ss.heap.size r (wModel k g s' im fr hd' nw hh qs qz it th hm ow lo)) ([.ref (g 0), .int p1, .int p2, .int p3] : List Value).toArray ss 0 0 (va_A (wModel k g s_0 im fr hd_0 nw hh qs qz it th hm ow lo) ss.heap.size)) (F0 mm 0 ls []) := by
    intro H locs _ _ hP hS
    refine lv_aload_n hx hb dX8_written_0 rfl (lv_at hl 0 rfl) ?_
    obtain ⟨v1001, h1002, he⟩ := bn1_i he
    refine cVir (As := []) (rest := []) ⟨hx, hb, hml, hown, hts⟩ hK hA hP hD hS (mX8_newBlock l D k g (s := s_0) (im := im) (fr := fr) (hd := hd_0) (nw := nw) (hh := hh) (qs := qs) (qz := qz) (it := it) (th := th) (hm := hm) (ow := ow) (lo := lo) h1002) (cwV 0 hts gX8_written_X8_newBlock rfl rfl rfl kX8_newBlock ⟨Nat.le_of_ble_eq_true rfl, Nat.le_of_ble_eq_true rfl⟩) [0, 1, 2, 3, 4, 5, 6, 7, 8, 9] rfl rfl 0 rfl rfl rfl hl.1 rfl (Nat.le_of_ble_eq_true rfl) ⟨Nat.le_refl 0, Nat.le_refl 0⟩ dX8_written_1 (fun H locs hP hD hS => ?_)
    refine lv_istore (lv' := [(4, .int v1001), (0, .ref (g 0)), (1, .int p1), (2, .int p2), (3, .int p3)]) hx hb dX8_written_4 hl (by decide) rfl (fun ls hl => ?_)
    refine lv_aload_n hx hb dX8_written_6 rfl (lv_at hl 1 rfl) ?_
    refine va_get (D := D) (ci := 8) (v := .ref (g 1)) (C := RX8) (T := TX8) (N := 13) hx hb hts iX8 hown hK hP 0 rfl rfl 1 (by decide) w1 (fun _ h9 => h9) rfl dX8_written_7 ?_
    refine lv_iconst (v := 2) hx hb dX8_written_10 (by decide) ?_
    refine lv_iload_n hx hb dX8_written_11 rfl (lv_at hl 2 rfl) ?_
    refine lv_iadd hx hb dX8_written_12 ?_
    obtain ⟨h1003, he⟩ := grd_i he
    refine va_iald hx hb hK hP 1 0 rfl rfl (ix_in h1003) dX8_written_13 ?_
    refine lv_iconst (v := 1) hx hb dX8_written_14 (by decide) ?_
    refine lv_icmp_ne (tgt := 52) hx hb dX8_written_15 (by decide) (fun c1004 => ?_) (fun c1004 => ?_)
    · have he := ifn he c1004
      refine lv_iconst (v := 0) hx hb dX8_written_52 (by decide) ?_
      exact B53 p1 p2 p3 v1001 0 s_0 hd_0 he H locs hP hD hS ls (lv_sub hl [1, 2, 3, 4, 0] rfl)
    · have he := ifp he c1004
      refine lv_aload_n hx hb dX8_written_18 rfl (lv_at hl 1 rfl) ?_
      refine lv_iload_n hx hb dX8_written_19 rfl (lv_at hl 2 rfl) ?_
      obtain ⟨v1005, h1006, he⟩ := bn1_i he
      refine cVlr (As := [.int p1]) (rest := []) ⟨hx, hb, hml, hown, hts⟩ hK hA hP hD hS (mX8_spaceOf l D k g (s := s_0) (im := im) (fr := fr) (hd := hd_0) (nw := nw) (hh := hh) (qs := qs) (qz := qz) (it := it) (th := th) (hm := hm) (ow := ow) (lo := lo) h1006) (cwV 1 hts gX8_written_X8_spaceOf rfl rfl rfl kX8_spaceOf ⟨Nat.le_of_ble_eq_true rfl, Nat.le_of_ble_eq_true rfl⟩) [0, 1, 2, 3, 4, 5, 6, 7, 8, 9] rfl rfl 0 rfl rfl rfl hl.1 rfl (Nat.le_of_ble_eq_true rfl) ⟨Nat.le_refl 0, Nat.le_refl 0⟩ dX8_written_20 (fun H locs hP hD hS => ?_)
      refine lv_aload_n hx hb dX8_written_23 rfl (lv_at hl 1 rfl) ?_
      refine lv_iload_n hx hb dX8_written_24 rfl (lv_at hl 2 rfl) ?_
      refine lv_iload_n hx hb dX8_written_25 rfl (lv_at hl 3 rfl) ?_
      obtain ⟨v1007, h1008, he⟩ := bn1_i he
      refine cVir (As := [.int p1, .int p2]) (rest := [.long v1005]) ⟨hx, hb, hml, hown, hts⟩ hK hA hP hD hS (mX8_sizeIn l D k g (s := s_0) (im := im) (fr := fr) (hd := hd_0) (nw := nw) (hh := hh) (qs := qs) (qz := qz) (it := it) (th := th) (hm := hm) (ow := ow) (lo := lo) h1008) (cwV 2 hts gX8_written_X8_sizeIn rfl rfl rfl kX8_sizeIn ⟨Nat.le_of_ble_eq_true rfl, Nat.le_of_ble_eq_true rfl⟩) [0, 1, 2, 3, 4, 5, 6, 7, 8, 9] rfl rfl 0 rfl rfl rfl hl.1 rfl (Nat.le_of_ble_eq_true rfl) ⟨Nat.le_refl 0, Nat.le_refl 0⟩ dX8_written_26 (fun H locs hP hD hS => ?_)
      refine lv_i2l (v := (Int32.toInt64 v1007)) hx hb dX8_written_29 rfl ?_
      refine lv_lsub hx hb dX8_written_30 ?_
      refine lv_iload_n hx hb dX8_written_31 rfl (lv_at hl 4 rfl) ?_
      refine lv_i2l (v := (Int32.toInt64 p3)) hx hb dX8_written_32 rfl ?_
      refine lv_ladd hx hb dX8_written_33 ?_
      refine lv_aload_n hx hb dX8_written_34 rfl (lv_at hl 1 rfl) ?_
      refine va_get (D := D) (ci := 8) (v := .ref (g 1)) (C := RX8) (T := TX8) (N := 13) hx hb hts iX8 hown hK hP 0 rfl rfl 1 (by decide) w1 (fun _ h9 => h9) rfl dX8_written_35 ?_
      refine lv_bipush (v := 82) hx hb dX8_written_38 (by decide) ?_
      refine lv_iload_n hx hb dX8_written_40 rfl (lv_at hl 2 rfl) ?_
      refine lv_iadd hx hb dX8_written_41 ?_
      obtain ⟨h1009, he⟩ := grd_i he
      refine va_iald hx hb hK hP 1 0 rfl rfl (ix_in h1009) dX8_written_42 ?_
      refine lv_i2l (v := (Int32.toInt64 (s_0 (Int32.toNatClampNeg (82 + p1))))) hx hb dX8_written_43 rfl ?_
      refine W.lcmp hx hb dX8_written_44 ?_
      refine lv_if_le (tgt := 52) hx hb dX8_written_45 (by decide) (fun c1010 => ?_) (fun c1010 => ?_)
      · have he := ifp he c1010
        refine lv_iconst (v := 0) hx hb dX8_written_52 (by decide) ?_
        exact B53 p1 p2 p3 v1001 0 s_0 hd_0 he H locs hP hD hS ls (lv_sub hl [1, 2, 3, 4, 0] rfl)
      · have he := ifn he c1010
        refine lv_iconst (v := 1) hx hb dX8_written_48 (by decide) ?_
        refine lv_goto (tgt := 53) hx hb dX8_written_49 (by decide) ?_
        exact B53 p1 p2 p3 v1001 1 s_0 hd_0 he H locs hP hD hS ls (lv_sub hl [1, 2, 3, 4, 0] rfl)
  exact key ss.heap [] rfl rfl hP hS
theorem kX8_erased : yX8_erased.cls = RX8 ∧ yX8_erased.cls ≠ "java/lang/invoke/MethodHandle" ∧ yX8_erased.cls ≠ "java/lang/invoke/VarHandle" ∧ (parseMethodDescriptor yX8_erased.desc).map (fun d => d.parameters.length) = some 2 := by decide +kernel
set_option maxRecDepth 100000 in
set_option maxHeartbeats 4000000 in
theorem mX8_erased (l : Launch) (D : va_G) (k : Nat → ClassId) (g : Nat → Nat) {s_0 : Nat → Int32} {im : Nat → Int32} {fr : Nat → Int32} {hd_0 : Nat → Int32} {nw : Nat → Int32} {hh : Nat → Int32} {qs : Nat → Int32} {qz : Nat → Int32} {it : Nat → Int64} {th : Int32} {hm : Int32} {ow : Int32} {lo : Int32} {p1 : Int32} {p2 : Int32} {r : Int32} {s' : Nat → Int32} {hd' : Nat → Int32} (he : xX8_erased s_0 hd_0 p1 p2 = some (r, s', hd')) : CtI l D k yX8_erased wsX8_erased ({ frames := 6, cells := 0, slots := 0, locals := 130 } : Room) [.ref (g 0), .int p1, .int p2] (wModel k g s_0 im fr hd_0 nw hh qs qz it th hm ow lo) r (wModel k g s' im fr hd' nw hh qs qz it th hm ow lo) := by
  intro sz9
  refine cSt (lv := [(0, .ref (g 0)), (1, .int p1), (2, .int p2)]) (own := RX8) (cc := cX8_erased) (nL := 4) (ret := (some .int)) (by decide +kernel) rfl rfl (Nat.le_of_ble_eq_true rfl) rfl ?_
  intro pp ee ss mm bl me co hsz hC0 hP hD hS ls hl
  subst hsz
  obtain ⟨hx, hb, hr, hml, hown, hts, hK, hlk⟩ := hC0
  have hA : ∀ q, ss.heap.size ≤ q → va_A (wModel k g s_0 im fr hd_0 nw hh qs qz it th hm ow lo) ss.heap.size q := fun q h => Or.inr h
  have iX8 : ∀ w ∈ wsX80, w ∈ wsX8_erased := fun _ h => List.mem_cons_of_mem _ (List.mem_append_right _ h)
  have w1 := hts (.fieldLink RX8 7 "DeadListPoolModel" "s" "[I") (List.mem_of_getElem? (i := 1) rfl)
  have hS0 := hS
  have key : ∀ (H : Heap) (locs : List Loc), H = ss.heap → locs = [] → va_P D vwCl (wModel k g s_0 im fr hd_0 nw hh qs qz it th hm ow lo) H → va_S (va_A (wModel k g s_0 im fr hd_0 nw hh qs qz it th hm ow lo) ss.heap.size) ss.heap H locs → W pp l ee ({ frames := 6, cells := 0, slots := 0, locals := 130 } : Room) ss mm ([.ref (g 0), .int p1, .int p2] : List Value).toArray bl me co H locs 0 0 (MQ bl (cQi D k (wModel k g s_0 im fr hd_0 nw hh qs qz it th hm ow lo) ss.heap.size r (wModel k g s' im fr hd' nw hh qs qz it th hm ow lo)) ([.ref (g 0), .int p1, .int p2] : List Value).toArray ss 0 0 (va_A (wModel k g s_0 im fr hd_0 nw hh qs qz it th hm ow lo) ss.heap.size)) (F0 mm 0 ls []) := by
    intro H locs _ _ hP hS
    refine lv_aload_n hx hb dX8_erased_0 rfl (lv_at hl 0 rfl) ?_
    refine va_get (D := D) (ci := 8) (v := .ref (g 1)) (C := RX8) (T := TX8) (N := 13) hx hb hts iX8 hown hK hP 0 rfl rfl 1 (by decide) w1 (fun _ h9 => h9) rfl dX8_erased_1 ?_
    refine lv_bipush (v := 122) hx hb dX8_erased_4 (by decide) ?_
    refine lv_bipush (v := 12) hx hb dX8_erased_6 (by decide) ?_
    refine lv_iload_n hx hb dX8_erased_8 rfl (lv_at hl 1 rfl) ?_
    refine lv_imul hx hb dX8_erased_9 ?_
    refine lv_iadd hx hb dX8_erased_10 ?_
    refine lv_iload_n hx hb dX8_erased_11 rfl (lv_at hl 2 rfl) ?_
    refine lv_iadd hx hb dX8_erased_12 ?_
    obtain ⟨h1001, he⟩ := grd_i he
    refine va_iald hx hb hK hP 1 0 rfl rfl (ix_in h1001) dX8_erased_13 ?_
    refine lv_istore_n (lv' := [(3, .int (s_0 (Int32.toNatClampNeg ((122 + (12 * p1)) + p2)))), (0, .ref (g 0)), (1, .int p1), (2, .int p2)]) hx hb dX8_erased_14 rfl hl (by decide) rfl (fun ls hl => ?_)
    refine lv_aload_n hx hb dX8_erased_15 rfl (lv_at hl 1 rfl) ?_
    refine va_get (D := D) (ci := 8) (v := .ref (g 1)) (C := RX8) (T := TX8) (N := 13) hx hb hts iX8 hown hK hP 0 rfl rfl 1 (by decide) w1 (fun _ h9 => h9) rfl dX8_erased_16 ?_
    refine lv_bipush (v := 122) hx hb dX8_erased_19 (by decide) ?_
    refine lv_bipush (v := 12) hx hb dX8_erased_21 (by decide) ?_
    refine lv_iload_n hx hb dX8_erased_23 rfl (lv_at hl 2 rfl) ?_
    refine lv_imul hx hb dX8_erased_24 ?_
    refine lv_iadd hx hb dX8_erased_25 ?_
    refine lv_iload_n hx hb dX8_erased_26 rfl (lv_at hl 3 rfl) ?_
    refine lv_iadd hx hb dX8_erased_27 ?_
    refine lv_iconst (v := (-1)) hx hb dX8_erased_28 (by decide) ?_
    obtain ⟨h1002, he⟩ := grd_i he
    obtain ⟨s1003, e1004, he⟩ := lt_i he
    refine va_iast hx hb hK hP hD hS 1 0 rfl rfl (ix_in h1002) dX8_erased_29 (fun H locs hP hD hS => ?_)
    have hP : va_P D vwCl (wModel k g s1003 im fr hd_0 nw hh qs qz it th hm ow lo) H := by rw [e1004]; exact hP
    have hD : va_D _ (wModel k g s1003 im fr hd_0 nw hh qs qz it th hm ow lo) := va_D_adr (by rw [e1004]; rfl) hD
    refine lv_aload_n hx hb dX8_erased_30 rfl (lv_at hl 1 rfl) ?_
    obtain ⟨v1005, s1006, hd1007, h1008, he⟩ := bn3_i he
    refine cVi (wf := (wModel k g s1006 im fr hd1007 nw hh qs qz it th hm ow lo)) (As := []) (rest := []) ⟨hx, hb, hml, hown, hts⟩ hK hA hP hD hS (mX8_frees l D k g (s_0 := s1003) (im := im) (fr := fr) (hd_0 := hd_0) (nw := nw) (hh := hh) (qs := qs) (qz := qz) (it := it) (th := th) (hm := hm) (ow := ow) (lo := lo) h1008) (cwV 0 hts gX8_erased_X8_frees rfl rfl rfl kX8_frees ⟨Nat.le_of_ble_eq_true rfl, Nat.le_of_ble_eq_true rfl⟩) [0, 1, 2, 3, 4, 5, 6, 7, 8, 9] rfl rfl rfl [false, false, false, false, false, false, false, false, false, false] trivial 10 rfl (by decide +kernel) rfl 0 rfl rfl rfl hl.1 rfl (Nat.le_of_ble_eq_true rfl) ⟨Nat.le_refl 0, Nat.le_refl 0⟩ dX8_erased_31 (fun H locs hP hD hS => ?_)
    refine lv_pop hx hb dX8_erased_34 rfl ?_
    refine lv_iload_n hx hb dX8_erased_35 rfl (lv_at hl 0 rfl) ?_
    obtain ⟨rfl, rfl, rfl⟩ := some3 he
    exact cRi hx hb hr hlk hK rfl hP hD hS dX8_erased_36
  exact key ss.heap [] rfl rfl hP hS
theorem kX8_write : yX8_write.cls = RX8 ∧ yX8_write.cls ≠ "java/lang/invoke/MethodHandle" ∧ yX8_write.cls ≠ "java/lang/invoke/VarHandle" ∧ (parseMethodDescriptor yX8_write.desc).map (fun d => d.parameters.length) = some 3 := by decide +kernel
set_option maxRecDepth 100000 in
set_option maxHeartbeats 4000000 in
theorem mX8_write (l : Launch) (D : va_G) (k : Nat → ClassId) (g : Nat → Nat) {s_0 : Nat → Int32} {im : Nat → Int32} {fr : Nat → Int32} {hd_0 : Nat → Int32} {nw : Nat → Int32} {hh : Nat → Int32} {qs : Nat → Int32} {qz : Nat → Int32} {it : Nat → Int64} {th : Int32} {hm : Int32} {ow : Int32} {lo : Int32} {p1 : Int32} {p2 : Int32} {p3 : Int32} {r : Int32} {s' : Nat → Int32} {hd' : Nat → Int32} (he : xX8_write s_0 hd_0 p1 p2 p3 = some (r, s', hd')) : CtI l D k yX8_write wsX8_write ({ frames := 7, cells := 0, slots := 0, locals := 155 } : Room) [.ref (g 0), .int p1, .int p2, .int p3] (wModel k g s_0 im fr hd_0 nw hh qs qz it th hm ow lo) r (wModel k g s' im fr hd' nw hh qs qz it th hm ow lo) := by
  intro sz9
  refine cSt (lv := [(0, .ref (g 0)), (1, .int p1), (2, .int p2), (3, .int p3)]) (own := RX8) (cc := cX8_write) (nL := 5) (ret := (some .int)) (by decide +kernel) rfl rfl (Nat.le_of_ble_eq_true rfl) rfl ?_
  intro pp ee ss mm bl me co hsz hC0 hP hD hS ls hl
  subst hsz
  obtain ⟨hx, hb, hr, hml, hown, hts, hK, hlk⟩ := hC0
  have hA : ∀ q, ss.heap.size ≤ q → va_A (wModel k g s_0 im fr hd_0 nw hh qs qz it th hm ow lo) ss.heap.size q := fun q h => Or.inr h
  have w1 := hts (.constant RX8 74 (1000000000)) (List.mem_of_getElem? (i := 1) rfl)
  have hS0 := hS
  have key : ∀ (H : Heap) (locs : List Loc), H = ss.heap → locs = [] → va_P D vwCl (wModel k g s_0 im fr hd_0 nw hh qs qz it th hm ow lo) H → va_S (va_A (wModel k g s_0 im fr hd_0 nw hh qs qz it th hm ow lo) ss.heap.size) ss.heap H locs → W pp l ee ({ frames := 7, cells := 0, slots := 0, locals := 155 } : Room) ss mm ([.ref (g 0), .int p1, .int p2, .int p3] : List Value).toArray bl me co H locs 0 0 (MQ bl (cQi D k (wModel k g s_0 im fr hd_0 nw hh qs qz it th hm ow lo) ss.heap.size r (wModel k g s' im fr hd' nw hh qs qz it th hm ow lo)) ([.ref (g 0), .int p1, .int p2, .int p3] : List Value).toArray ss 0 0 (va_A (wModel k g s_0 im fr hd_0 nw hh qs qz it th hm ow lo) ss.heap.size)) (F0 mm 0 ls []) := by
    intro H locs _ _ hP hS
    refine lv_iload_n hx hb dX8_write_0 rfl (lv_at hl 2 rfl) ?_
    refine lv_iconst (v := 0) hx hb dX8_write_1 (by decide) ?_
    refine lv_bipush (v := 11) hx hb dX8_write_2 (by decide) ?_
    obtain ⟨v1001, h1002, he⟩ := bn1_i he
    refine cSi (rest := []) ⟨hx, hb, hml, hown, hts⟩ hK hA hP hD hS (mX8_in l D k h1002) (cwS 3 hts gX8_write_X8_in rfl rfl rfl kX8_in ⟨Nat.le_of_ble_eq_true rfl, Nat.le_of_ble_eq_true rfl⟩) rfl hl.1 rfl (Nat.le_of_ble_eq_true rfl) ⟨Nat.le_refl 0, Nat.le_refl 0⟩ dX8_write_4 (fun H locs hP hD hS => ?_)
    refine lv_if_eq (tgt := 20) hx hb dX8_write_7 (by decide) (fun c1003 => ?_) (fun c1003 => ?_)
    · have he := ifp he c1003
      refine lv_bipush (v := (-2)) hx hb dX8_write_20 (by decide) ?_
      obtain ⟨rfl, rfl, rfl⟩ := some3 he
      exact cRi hx hb hr hlk hK rfl hP hD hS dX8_write_22
    · have he := ifn he c1003
      refine lv_iload_n hx hb dX8_write_10 rfl (lv_at hl 3 rfl) ?_
      refine lv_iconst (v := 1) hx hb dX8_write_11 (by decide) ?_
      refine lv_ldc hx hb hown w1 dX8_write_12 ?_
      obtain ⟨v1004, h1005, he⟩ := bn1_i he
      refine cSi (rest := []) ⟨hx, hb, hml, hown, hts⟩ hK hA hP hD hS (mX8_in l D k h1005) (cwS 3 hts gX8_write_X8_in rfl rfl rfl kX8_in ⟨Nat.le_of_ble_eq_true rfl, Nat.le_of_ble_eq_true rfl⟩) rfl hl.1 rfl (Nat.le_of_ble_eq_true rfl) ⟨Nat.le_refl 0, Nat.le_refl 0⟩ dX8_write_14 (fun H locs hP hD hS => ?_)
      refine lv_if_ne (tgt := 23) hx hb dX8_write_17 (by decide) (fun c1006 => ?_) (fun c1006 => ?_)
      · have he := ifn he c1006
        refine lv_aload_n hx hb dX8_write_23 rfl (lv_at hl 0 rfl) ?_
        refine lv_iload_n hx hb dX8_write_24 rfl (lv_at hl 1 rfl) ?_
        refine lv_iconst (v := 0) hx hb dX8_write_25 (by decide) ?_
        obtain ⟨v1007, h1008, he⟩ := bn1_i he
        refine cVir (As := [.int p1, .int 0]) (rest := []) ⟨hx, hb, hml, hown, hts⟩ hK hA hP hD hS (mX8_asked l D k g (s := s_0) (im := im) (fr := fr) (hd := hd_0) (nw := nw) (hh := hh) (qs := qs) (qz := qz) (it := it) (th := th) (hm := hm) (ow := ow) (lo := lo) h1008) (cwV 2 hts gX8_write_X8_asked rfl rfl rfl kX8_asked ⟨Nat.le_of_ble_eq_true rfl, Nat.le_of_ble_eq_true rfl⟩) [0, 1, 2, 3, 4, 5, 6, 7, 8, 9] rfl rfl 0 rfl rfl rfl hl.1 rfl (Nat.le_of_ble_eq_true rfl) ⟨Nat.le_refl 0, Nat.le_refl 0⟩ dX8_write_26 (fun H locs hP hD hS => ?_)
        refine lv_istore (lv' := [(4, .int v1007), (0, .ref (g 0)), (1, .int p1), (2, .int p2), (3, .int p3)]) hx hb dX8_write_29 hl (by decide) rfl (fun ls hl => ?_)
        refine lv_iload hx hb dX8_write_31 (lv_at hl 0 rfl) ?_
        refine lv_if_eq (tgt := 41) hx hb dX8_write_33 (by decide) (fun c1009 => ?_) (fun c1009 => ?_)
        · have he := ifp he c1009
          refine lv_aload_n hx hb dX8_write_41 rfl (lv_at hl 1 rfl) ?_
          refine lv_iload_n hx hb dX8_write_42 rfl (lv_at hl 2 rfl) ?_
          refine lv_iload_n hx hb dX8_write_43 rfl (lv_at hl 3 rfl) ?_
          refine lv_iload_n hx hb dX8_write_44 rfl (lv_at hl 4 rfl) ?_
          obtain ⟨v1010, s1011, hd1012, h1013, he⟩ := bn3_i he
          refine cVi (wf := (wModel k g s1011 im fr hd1012 nw hh qs qz it th hm ow lo)) (As := [.int p1, .int p2, .int p3]) (rest := []) ⟨hx, hb, hml, hown, hts⟩ hK hA hP hD hS (mX8_written l D k g (s_0 := s_0) (im := im) (fr := fr) (hd_0 := hd_0) (nw := nw) (hh := hh) (qs := qs) (qz := qz) (it := it) (th := th) (hm := hm) (ow := ow) (lo := lo) h1013) (cwV 3 hts gX8_write_X8_written rfl rfl rfl kX8_written ⟨Nat.le_of_ble_eq_true rfl, Nat.le_of_ble_eq_true rfl⟩) [0, 1, 2, 3, 4, 5, 6, 7, 8, 9] rfl rfl rfl [false, false, false, false, false, false, false, false, false, false] trivial 10 rfl (by decide +kernel) rfl 0 rfl rfl rfl hl.1 rfl (Nat.le_of_ble_eq_true rfl) ⟨Nat.le_refl 0, Nat.le_refl 0⟩ dX8_write_45 (fun H locs hP hD hS => ?_)
          obtain ⟨rfl, rfl, rfl⟩ := some3 he
          exact cRi hx hb hr hlk hK rfl hP hD hS dX8_write_48
        · have he := ifn he c1009
          refine lv_iload hx hb dX8_write_36 (lv_at hl 0 rfl) ?_
          refine lv_goto (tgt := 48) hx hb dX8_write_38 (by decide) ?_
          obtain ⟨rfl, rfl, rfl⟩ := some3 he
          exact cRi hx hb hr hlk hK rfl hP hD hS dX8_write_48
      · have he := ifp he c1006
        refine lv_bipush (v := (-2)) hx hb dX8_write_20 (by decide) ?_
        obtain ⟨rfl, rfl, rfl⟩ := some3 he
        exact cRi hx hb hr hlk hK rfl hP hD hS dX8_write_22
  exact key ss.heap [] rfl rfl hP hS
theorem kX8_erase : yX8_erase.cls = RX8 ∧ yX8_erase.cls ≠ "java/lang/invoke/MethodHandle" ∧ yX8_erase.cls ≠ "java/lang/invoke/VarHandle" ∧ (parseMethodDescriptor yX8_erase.desc).map (fun d => d.parameters.length) = some 2 := by decide +kernel
set_option maxRecDepth 100000 in
set_option maxHeartbeats 4000000 in
theorem mX8_erase (l : Launch) (D : va_G) (k : Nat → ClassId) (g : Nat → Nat) {s_0 : Nat → Int32} {im : Nat → Int32} {fr : Nat → Int32} {hd_0 : Nat → Int32} {nw : Nat → Int32} {hh : Nat → Int32} {qs : Nat → Int32} {qz : Nat → Int32} {it : Nat → Int64} {th : Int32} {hm : Int32} {ow : Int32} {lo : Int32} {p1 : Int32} {p2 : Int32} {r : Int32} {s' : Nat → Int32} {hd' : Nat → Int32} (he : xX8_erase s_0 hd_0 p1 p2 = some (r, s', hd')) : CtI l D k yX8_erase wsX8_erase ({ frames := 7, cells := 0, slots := 0, locals := 153 } : Room) [.ref (g 0), .int p1, .int p2] (wModel k g s_0 im fr hd_0 nw hh qs qz it th hm ow lo) r (wModel k g s' im fr hd' nw hh qs qz it th hm ow lo) := by
  intro sz9
  refine cSt (lv := [(0, .ref (g 0)), (1, .int p1), (2, .int p2)]) (own := RX8) (cc := cX8_erase) (nL := 4) (ret := (some .int)) (by decide +kernel) rfl rfl (Nat.le_of_ble_eq_true rfl) rfl ?_
  intro pp ee ss mm bl me co hsz hC0 hP hD hS ls hl
  subst hsz
  obtain ⟨hx, hb, hr, hml, hown, hts, hK, hlk⟩ := hC0
  have hA : ∀ q, ss.heap.size ≤ q → va_A (wModel k g s_0 im fr hd_0 nw hh qs qz it th hm ow lo) ss.heap.size q := fun q h => Or.inr h
  have hS0 := hS
  have key : ∀ (H : Heap) (locs : List Loc), H = ss.heap → locs = [] → va_P D vwCl (wModel k g s_0 im fr hd_0 nw hh qs qz it th hm ow lo) H → va_S (va_A (wModel k g s_0 im fr hd_0 nw hh qs qz it th hm ow lo) ss.heap.size) ss.heap H locs → W pp l ee ({ frames := 7, cells := 0, slots := 0, locals := 153 } : Room) ss mm ([.ref (g 0), .int p1, .int p2] : List Value).toArray bl me co H locs 0 0 (MQ bl (cQi D k (wModel k g s_0 im fr hd_0 nw hh qs qz it th hm ow lo) ss.heap.size r (wModel k g s' im fr hd' nw hh qs qz it th hm ow lo)) ([.ref (g 0), .int p1, .int p2] : List Value).toArray ss 0 0 (va_A (wModel k g s_0 im fr hd_0 nw hh qs qz it th hm ow lo) ss.heap.size)) (F0 mm 0 ls []) := by
    intro H locs _ _ hP hS
    refine lv_iload_n hx hb dX8_erase_0 rfl (lv_at hl 2 rfl) ?_
    refine lv_iconst (v := 0) hx hb dX8_erase_1 (by decide) ?_
    refine lv_bipush (v := 11) hx hb dX8_erase_2 (by decide) ?_
    obtain ⟨v1001, h1002, he⟩ := bn1_i he
    refine cSi (rest := []) ⟨hx, hb, hml, hown, hts⟩ hK hA hP hD hS (mX8_in l D k h1002) (cwS 3 hts gX8_erase_X8_in rfl rfl rfl kX8_in ⟨Nat.le_of_ble_eq_true rfl, Nat.le_of_ble_eq_true rfl⟩) rfl hl.1 rfl (Nat.le_of_ble_eq_true rfl) ⟨Nat.le_refl 0, Nat.le_refl 0⟩ dX8_erase_4 (fun H locs hP hD hS => ?_)
    refine lv_if_ne (tgt := 13) hx hb dX8_erase_7 (by decide) (fun c1003 => ?_) (fun c1003 => ?_)
    · have he := ifn he c1003
      refine lv_aload_n hx hb dX8_erase_13 rfl (lv_at hl 0 rfl) ?_
      refine lv_iload_n hx hb dX8_erase_14 rfl (lv_at hl 1 rfl) ?_
      refine lv_iconst (v := 0) hx hb dX8_erase_15 (by decide) ?_
      obtain ⟨v1004, h1005, he⟩ := bn1_i he
      refine cVir (As := [.int p1, .int 0]) (rest := []) ⟨hx, hb, hml, hown, hts⟩ hK hA hP hD hS (mX8_asked l D k g (s := s_0) (im := im) (fr := fr) (hd := hd_0) (nw := nw) (hh := hh) (qs := qs) (qz := qz) (it := it) (th := th) (hm := hm) (ow := ow) (lo := lo) h1005) (cwV 2 hts gX8_erase_X8_asked rfl rfl rfl kX8_asked ⟨Nat.le_of_ble_eq_true rfl, Nat.le_of_ble_eq_true rfl⟩) [0, 1, 2, 3, 4, 5, 6, 7, 8, 9] rfl rfl 0 rfl rfl rfl hl.1 rfl (Nat.le_of_ble_eq_true rfl) ⟨Nat.le_refl 0, Nat.le_refl 0⟩ dX8_erase_16 (fun H locs hP hD hS => ?_)
      refine lv_istore_n (lv' := [(3, .int v1004), (0, .ref (g 0)), (1, .int p1), (2, .int p2)]) hx hb dX8_erase_19 rfl hl (by decide) rfl (fun ls hl => ?_)
      refine lv_iload_n hx hb dX8_erase_20 rfl (lv_at hl 0 rfl) ?_
      refine lv_if_eq (tgt := 28) hx hb dX8_erase_21 (by decide) (fun c1006 => ?_) (fun c1006 => ?_)
      · have he := ifp he c1006
        refine lv_aload_n hx hb dX8_erase_28 rfl (lv_at hl 1 rfl) ?_
        refine lv_iload_n hx hb dX8_erase_29 rfl (lv_at hl 2 rfl) ?_
        refine lv_iload_n hx hb dX8_erase_30 rfl (lv_at hl 3 rfl) ?_
        obtain ⟨v1007, s1008, hd1009, h1010, he⟩ := bn3_i he
        refine cVi (wf := (wModel k g s1008 im fr hd1009 nw hh qs qz it th hm ow lo)) (As := [.int p1, .int p2]) (rest := []) ⟨hx, hb, hml, hown, hts⟩ hK hA hP hD hS (mX8_erased l D k g (s_0 := s_0) (im := im) (fr := fr) (hd_0 := hd_0) (nw := nw) (hh := hh) (qs := qs) (qz := qz) (it := it) (th := th) (hm := hm) (ow := ow) (lo := lo) h1010) (cwV 2 hts gX8_erase_X8_erased rfl rfl rfl kX8_erased ⟨Nat.le_of_ble_eq_true rfl, Nat.le_of_ble_eq_true rfl⟩) [0, 1, 2, 3, 4, 5, 6, 7, 8, 9] rfl rfl rfl [false, false, false, false, false, false, false, false, false, false] trivial 10 rfl (by decide +kernel) rfl 0 rfl rfl rfl hl.1 rfl (Nat.le_of_ble_eq_true rfl) ⟨Nat.le_refl 0, Nat.le_refl 0⟩ dX8_erase_31 (fun H locs hP hD hS => ?_)
        obtain ⟨rfl, rfl, rfl⟩ := some3 he
        exact cRi hx hb hr hlk hK rfl hP hD hS dX8_erase_34
      · have he := ifn he c1006
        refine lv_iload_n hx hb dX8_erase_24 rfl (lv_at hl 0 rfl) ?_
        refine lv_goto (tgt := 34) hx hb dX8_erase_25 (by decide) ?_
        obtain ⟨rfl, rfl, rfl⟩ := some3 he
        exact cRi hx hb hr hlk hK rfl hP hD hS dX8_erase_34
    · have he := ifp he c1003
      refine lv_bipush (v := (-2)) hx hb dX8_erase_10 (by decide) ?_
      obtain ⟨rfl, rfl, rfl⟩ := some3 he
      exact cRi hx hb hr hlk hK rfl hP hD hS dX8_erase_12
  exact key ss.heap [] rfl rfl hP hS
theorem kX8_snap : yX8_snap.cls = RX8 ∧ yX8_snap.cls ≠ "java/lang/invoke/MethodHandle" ∧ yX8_snap.cls ≠ "java/lang/invoke/VarHandle" ∧ (parseMethodDescriptor yX8_snap.desc).map (fun d => d.parameters.length) = some 2 := by decide +kernel
set_option maxRecDepth 100000 in
set_option maxHeartbeats 4000000 in
theorem mX8_snap (l : Launch) (D : va_G) (k : Nat → ClassId) (g : Nat → Nat) {s_0 : Nat → Int32} {im : Nat → Int32} {fr : Nat → Int32} {hd : Nat → Int32} {nw : Nat → Int32} {hh : Nat → Int32} {qs : Nat → Int32} {qz : Nat → Int32} {it : Nat → Int64} {th : Int32} {hm : Int32} {ow : Int32} {lo : Int32} {p1 : Int32} {p2 : Int32} {r : Int32} {s' : Nat → Int32} (he : xX8_snap s_0 p1 p2 = some (r, s')) : CtI l D k yX8_snap wsX8_snap ({ frames := 4, cells := 0, slots := 0, locals := 87 } : Room) [.ref (g 0), .int p1, .int p2] (wModel k g s_0 im fr hd nw hh qs qz it th hm ow lo) r (wModel k g s' im fr hd nw hh qs qz it th hm ow lo) := by
  intro sz9
  refine cSt (lv := [(0, .ref (g 0)), (1, .int p1), (2, .int p2)]) (own := RX8) (cc := cX8_snap) (nL := 5) (ret := (some .int)) (by decide +kernel) rfl rfl (Nat.le_of_ble_eq_true rfl) rfl ?_
  intro pp ee ss mm bl me co hsz hC0 hP hD hS ls hl
  subst hsz
  obtain ⟨hx, hb, hr, hml, hown, hts, hK, hlk⟩ := hC0
  have hA : ∀ q, ss.heap.size ≤ q → va_A (wModel k g s_0 im fr hd nw hh qs qz it th hm ow lo) ss.heap.size q := fun q h => Or.inr h
  have iX8 : ∀ w ∈ wsX80, w ∈ wsX8_snap := fun _ h => List.mem_cons_of_mem _ (List.mem_append_right _ h)
  have w1 := hts (.fieldLink RX8 7 "DeadListPoolModel" "s" "[I") (List.mem_of_getElem? (i := 1) rfl)
  have hS0 := hS
  have key : ∀ (H : Heap) (locs : List Loc), H = ss.heap → locs = [] → va_P D vwCl (wModel k g s_0 im fr hd nw hh qs qz it th hm ow lo) H → va_S (va_A (wModel k g s_0 im fr hd nw hh qs qz it th hm ow lo) ss.heap.size) ss.heap H locs → W pp l ee ({ frames := 4, cells := 0, slots := 0, locals := 87 } : Room) ss mm ([.ref (g 0), .int p1, .int p2] : List Value).toArray bl me co H locs 0 0 (MQ bl (cQi D k (wModel k g s_0 im fr hd nw hh qs qz it th hm ow lo) ss.heap.size r (wModel k g s' im fr hd nw hh qs qz it th hm ow lo)) ([.ref (g 0), .int p1, .int p2] : List Value).toArray ss 0 0 (va_A (wModel k g s_0 im fr hd nw hh qs qz it th hm ow lo) ss.heap.size)) (F0 mm 0 ls []) := by
    intro H locs _ _ hP hS
    refine lv_iload_n hx hb dX8_snap_0 rfl (lv_at hl 2 rfl) ?_
    refine lv_iconst (v := 0) hx hb dX8_snap_1 (by decide) ?_
    refine lv_iconst (v := 1) hx hb dX8_snap_2 (by decide) ?_
    obtain ⟨v1001, h1002, he⟩ := bn1_i he
    refine cSi (rest := []) ⟨hx, hb, hml, hown, hts⟩ hK hA hP hD hS (mX8_in l D k h1002) (cwS 3 hts gX8_snap_X8_in rfl rfl rfl kX8_in ⟨Nat.le_of_ble_eq_true rfl, Nat.le_of_ble_eq_true rfl⟩) rfl hl.1 rfl (Nat.le_of_ble_eq_true rfl) ⟨Nat.le_refl 0, Nat.le_refl 0⟩ dX8_snap_3 (fun H locs hP hD hS => ?_)
    refine lv_if_ne (tgt := 12) hx hb dX8_snap_6 (by decide) (fun c1003 => ?_) (fun c1003 => ?_)
    · have he := ifn he c1003
      refine lv_aload_n hx hb dX8_snap_12 rfl (lv_at hl 0 rfl) ?_
      refine lv_iload_n hx hb dX8_snap_13 rfl (lv_at hl 1 rfl) ?_
      refine lv_iconst (v := 0) hx hb dX8_snap_14 (by decide) ?_
      obtain ⟨v1004, h1005, he⟩ := bn1_i he
      refine cVir (As := [.int p1, .int 0]) (rest := []) ⟨hx, hb, hml, hown, hts⟩ hK hA hP hD hS (mX8_asked l D k g (s := s_0) (im := im) (fr := fr) (hd := hd) (nw := nw) (hh := hh) (qs := qs) (qz := qz) (it := it) (th := th) (hm := hm) (ow := ow) (lo := lo) h1005) (cwV 2 hts gX8_snap_X8_asked rfl rfl rfl kX8_asked ⟨Nat.le_of_ble_eq_true rfl, Nat.le_of_ble_eq_true rfl⟩) [0, 1, 2, 3, 4, 5, 6, 7, 8, 9] rfl rfl 0 rfl rfl rfl hl.1 rfl (Nat.le_of_ble_eq_true rfl) ⟨Nat.le_refl 0, Nat.le_refl 0⟩ dX8_snap_15 (fun H locs hP hD hS => ?_)
      refine lv_istore_n (lv' := [(3, .int v1004), (0, .ref (g 0)), (1, .int p1), (2, .int p2)]) hx hb dX8_snap_18 rfl hl (by decide) rfl (fun ls hl => ?_)
      refine lv_iload_n hx hb dX8_snap_19 rfl (lv_at hl 0 rfl) ?_
      refine lv_if_eq (tgt := 25) hx hb dX8_snap_20 (by decide) (fun c1006 => ?_) (fun c1006 => ?_)
      · have he := ifp he c1006
        refine lv_aload_n hx hb dX8_snap_25 rfl (lv_at hl 1 rfl) ?_
        obtain ⟨v1007, h1008, he⟩ := bn1_i he
        refine cVir (As := []) (rest := []) ⟨hx, hb, hml, hown, hts⟩ hK hA hP hD hS (mX8_newThing l D k g (s := s_0) (im := im) (fr := fr) (hd := hd) (nw := nw) (hh := hh) (qs := qs) (qz := qz) (it := it) (th := th) (hm := hm) (ow := ow) (lo := lo) h1008) (cwV 0 hts gX8_snap_X8_newThing rfl rfl rfl kX8_newThing ⟨Nat.le_of_ble_eq_true rfl, Nat.le_of_ble_eq_true rfl⟩) [0, 1, 2, 3, 4, 5, 6, 7, 8, 9] rfl rfl 0 rfl rfl rfl hl.1 rfl (Nat.le_of_ble_eq_true rfl) ⟨Nat.le_refl 0, Nat.le_refl 0⟩ dX8_snap_26 (fun H locs hP hD hS => ?_)
        refine lv_bipush (v := 20) hx hb dX8_snap_29 (by decide) ?_
        refine lv_icmp_ne (tgt := 37) hx hb dX8_snap_31 (by decide) (fun c1009 => ?_) (fun c1009 => ?_)
        · have he := ifn he c1009
          refine lv_aload_n hx hb dX8_snap_37 rfl (lv_at hl 1 rfl) ?_
          refine lv_iconst (v := 2) hx hb dX8_snap_38 (by decide) ?_
          refine lv_iload_n hx hb dX8_snap_39 rfl (lv_at hl 3 rfl) ?_
          refine lv_iadd hx hb dX8_snap_40 ?_
          refine lv_aload_n hx hb dX8_snap_41 rfl (lv_at hl 1 rfl) ?_
          refine va_get (D := D) (ci := 8) (v := .ref (g 1)) (C := RX8) (T := TX8) (N := 13) hx hb hts iX8 hown hK hP 0 rfl rfl 1 (by decide) w1 (fun _ h9 => h9) rfl dX8_snap_42 ?_
          refine lv_iconst (v := 0) hx hb dX8_snap_45 (by decide) ?_
          obtain ⟨h1010, he⟩ := grd_i he
          refine va_iald hx hb hK hP 1 0 rfl rfl (ix_in h1010) dX8_snap_46 ?_
          obtain ⟨v1011, s1012, h1013, he⟩ := bn2_i he
          refine cVi (wf := (wModel k g s1012 im fr hd nw hh qs qz it th hm ow lo)) (As := [.int (2 + p2), .int (s_0 (Int32.toNatClampNeg 0))]) (rest := []) ⟨hx, hb, hml, hown, hts⟩ hK hA hP hD hS (mX8_comes l D k g (s_0 := s_0) (im := im) (fr := fr) (hd := hd) (nw := nw) (hh := hh) (qs := qs) (qz := qz) (it := it) (th := th) (hm := hm) (ow := ow) (lo := lo) h1013) (cwV 2 hts gX8_snap_X8_comes rfl rfl rfl kX8_comes ⟨Nat.le_of_ble_eq_true rfl, Nat.le_of_ble_eq_true rfl⟩) [0, 1, 2, 3, 4, 5, 6, 7, 8, 9] rfl rfl rfl [false, false, false, false, false, false, false, false, false, false] trivial 10 rfl (by decide +kernel) rfl 0 rfl rfl rfl hl.1 rfl (Nat.le_of_ble_eq_true rfl) ⟨Nat.le_refl 0, Nat.le_refl 0⟩ dX8_snap_47 (fun H locs hP hD hS => ?_)
          refine lv_istore (lv' := [(4, .int v1011), (3, .int v1004), (0, .ref (g 0)), (1, .int p1), (2, .int p2)]) hx hb dX8_snap_50 hl (by decide) rfl (fun ls hl => ?_)
          refine lv_aload_n hx hb dX8_snap_52 rfl (lv_at hl 2 rfl) ?_
          refine lv_iload hx hb dX8_snap_53 (lv_at hl 0 rfl) ?_
          refine lv_iload_n hx hb dX8_snap_55 rfl (lv_at hl 3 rfl) ?_
          obtain ⟨s1014, h1015, he⟩ := bn1_i he
          refine cVv (wf := (wModel k g s1014 im fr hd nw hh qs qz it th hm ow lo)) (As := [.int v1011, .int p1]) (rest := []) ⟨hx, hb, hml, hown, hts⟩ hK hA hP hD hS (mX8_takesSlots l D k g (s_0 := s1012) (im := im) (fr := fr) (hd := hd) (nw := nw) (hh := hh) (qs := qs) (qz := qz) (it := it) (th := th) (hm := hm) (ow := ow) (lo := lo) h1015) (cwV 2 hts gX8_snap_X8_takesSlots rfl rfl rfl kX8_takesSlots ⟨Nat.le_of_ble_eq_true rfl, Nat.le_of_ble_eq_true rfl⟩) [0, 1, 2, 3, 4, 5, 6, 7, 8, 9] rfl rfl rfl [false, false, false, false, false, false, false, false, false, false] trivial 10 rfl (by decide +kernel) rfl 0 rfl rfl rfl hl.1 rfl (Nat.le_of_ble_eq_true rfl) ⟨Nat.le_refl 0, Nat.le_refl 0⟩ dX8_snap_56 (fun H locs hP hD hS => ?_)
          refine lv_aload_n hx hb dX8_snap_59 rfl (lv_at hl 2 rfl) ?_
          refine va_get (D := D) (ci := 8) (v := .ref (g 1)) (C := RX8) (T := TX8) (N := 13) hx hb hts iX8 hown hK hP 0 rfl rfl 1 (by decide) w1 (fun _ h9 => h9) rfl dX8_snap_60 ?_
          refine lv_bipush (v := 42) hx hb dX8_snap_63 (by decide) ?_
          refine lv_iload hx hb dX8_snap_65 (lv_at hl 0 rfl) ?_
          refine lv_iadd hx hb dX8_snap_67 ?_
          refine lv_aload_n hx hb dX8_snap_68 rfl (lv_at hl 2 rfl) ?_
          refine va_get (D := D) (ci := 8) (v := .ref (g 1)) (C := RX8) (T := TX8) (N := 13) hx hb hts iX8 hown hK hP 0 rfl rfl 1 (by decide) w1 (fun _ h9 => h9) rfl dX8_snap_69 ?_
          refine lv_bipush (v := 42) hx hb dX8_snap_72 (by decide) ?_
          refine lv_iload_n hx hb dX8_snap_74 rfl (lv_at hl 3 rfl) ?_
          refine lv_iadd hx hb dX8_snap_75 ?_
          obtain ⟨h1016, he⟩ := grd_i he
          refine va_iald hx hb hK hP 1 0 rfl rfl (ix_in h1016) dX8_snap_76 ?_
          obtain ⟨h1017, he⟩ := grd_i he
          obtain ⟨s1018, e1019, he⟩ := lt_i he
          refine va_iast hx hb hK hP hD hS 1 0 rfl rfl (ix_in h1017) dX8_snap_77 (fun H locs hP hD hS => ?_)
          have hP : va_P D vwCl (wModel k g s1018 im fr hd nw hh qs qz it th hm ow lo) H := by rw [e1019]; exact hP
          have hD : va_D _ (wModel k g s1018 im fr hd nw hh qs qz it th hm ow lo) := va_D_adr (by rw [e1019]; rfl) hD
          refine lv_aload_n hx hb dX8_snap_78 rfl (lv_at hl 2 rfl) ?_
          refine va_get (D := D) (ci := 8) (v := .ref (g 1)) (C := RX8) (T := TX8) (N := 13) hx hb hts iX8 hown hK hP 0 rfl rfl 1 (by decide) w1 (fun _ h9 => h9) rfl dX8_snap_79 ?_
          refine lv_bipush (v := 42) hx hb dX8_snap_82 (by decide) ?_
          refine lv_iload_n hx hb dX8_snap_84 rfl (lv_at hl 3 rfl) ?_
          refine lv_iadd hx hb dX8_snap_85 ?_
          refine lv_iload hx hb dX8_snap_86 (lv_at hl 0 rfl) ?_
          obtain ⟨h1020, he⟩ := grd_i he
          obtain ⟨s1021, e1022, he⟩ := lt_i he
          refine va_iast hx hb hK hP hD hS 1 0 rfl rfl (ix_in h1020) dX8_snap_88 (fun H locs hP hD hS => ?_)
          have hP : va_P D vwCl (wModel k g s1021 im fr hd nw hh qs qz it th hm ow lo) H := by rw [e1022]; exact hP
          have hD : va_D _ (wModel k g s1021 im fr hd nw hh qs qz it th hm ow lo) := va_D_adr (by rw [e1022]; rfl) hD
          refine lv_aload_n hx hb dX8_snap_89 rfl (lv_at hl 2 rfl) ?_
          refine va_get (D := D) (ci := 8) (v := .ref (g 1)) (C := RX8) (T := TX8) (N := 13) hx hb hts iX8 hown hK hP 0 rfl rfl 1 (by decide) w1 (fun _ h9 => h9) rfl dX8_snap_90 ?_
          refine lv_bipush (v := 62) hx hb dX8_snap_93 (by decide) ?_
          refine lv_iload hx hb dX8_snap_95 (lv_at hl 0 rfl) ?_
          refine lv_iadd hx hb dX8_snap_97 ?_
          refine lv_iload_n hx hb dX8_snap_98 rfl (lv_at hl 3 rfl) ?_
          obtain ⟨h1023, he⟩ := grd_i he
          obtain ⟨s1024, e1025, he⟩ := lt_i he
          refine va_iast hx hb hK hP hD hS 1 0 rfl rfl (ix_in h1023) dX8_snap_99 (fun H locs hP hD hS => ?_)
          have hP : va_P D vwCl (wModel k g s1024 im fr hd nw hh qs qz it th hm ow lo) H := by rw [e1025]; exact hP
          have hD : va_D _ (wModel k g s1024 im fr hd nw hh qs qz it th hm ow lo) := va_D_adr (by rw [e1025]; rfl) hD
          refine lv_aload_n hx hb dX8_snap_100 rfl (lv_at hl 2 rfl) ?_
          refine va_get (D := D) (ci := 8) (v := .ref (g 1)) (C := RX8) (T := TX8) (N := 13) hx hb hts iX8 hown hK hP 0 rfl rfl 1 (by decide) w1 (fun _ h9 => h9) rfl dX8_snap_101 ?_
          refine lv_bipush (v := 102) hx hb dX8_snap_104 (by decide) ?_
          refine lv_iload hx hb dX8_snap_106 (lv_at hl 0 rfl) ?_
          refine lv_iadd hx hb dX8_snap_108 ?_
          refine lv_iload_n hx hb dX8_snap_109 rfl (lv_at hl 4 rfl) ?_
          obtain ⟨h1026, he⟩ := grd_i he
          obtain ⟨s1027, e1028, he⟩ := lt_i he
          refine va_iast hx hb hK hP hD hS 1 0 rfl rfl (ix_in h1026) dX8_snap_110 (fun H locs hP hD hS => ?_)
          have hP : va_P D vwCl (wModel k g s1027 im fr hd nw hh qs qz it th hm ow lo) H := by rw [e1028]; exact hP
          have hD : va_D _ (wModel k g s1027 im fr hd nw hh qs qz it th hm ow lo) := va_D_adr (by rw [e1028]; rfl) hD
          refine lv_aload_n hx hb dX8_snap_111 rfl (lv_at hl 2 rfl) ?_
          refine va_get (D := D) (ci := 8) (v := .ref (g 1)) (C := RX8) (T := TX8) (N := 13) hx hb hts iX8 hown hK hP 0 rfl rfl 1 (by decide) w1 (fun _ h9 => h9) rfl dX8_snap_112 ?_
          refine lv_iconst (v := 0) hx hb dX8_snap_115 (by decide) ?_
          refine lv_dup2_11 hx hb dX8_snap_116 rfl rfl ?_
          obtain ⟨h1029, he⟩ := grd_i he
          refine va_iald hx hb hK hP 1 0 rfl rfl (ix_in h1029) dX8_snap_117 ?_
          refine lv_iconst (v := 1) hx hb dX8_snap_118 (by decide) ?_
          refine lv_iadd hx hb dX8_snap_119 ?_
          obtain ⟨h1030, he⟩ := grd_i he
          obtain ⟨s1031, e1032, he⟩ := lt_i he
          refine va_iast hx hb hK hP hD hS 1 0 rfl rfl (ix_in h1030) dX8_snap_120 (fun H locs hP hD hS => ?_)
          have hP : va_P D vwCl (wModel k g s1031 im fr hd nw hh qs qz it th hm ow lo) H := by rw [e1032]; exact hP
          have hD : va_D _ (wModel k g s1031 im fr hd nw hh qs qz it th hm ow lo) := va_D_adr (by rw [e1032]; rfl) hD
          refine lv_iload hx hb dX8_snap_121 (lv_at hl 0 rfl) ?_
          obtain ⟨rfl, rfl⟩ := some2 he
          exact cRi hx hb hr hlk hK rfl hP hD hS dX8_snap_123
        · have he := ifp he c1009
          refine lv_bipush (v := (-4)) hx hb dX8_snap_34 (by decide) ?_
          obtain ⟨rfl, rfl⟩ := some2 he
          exact cRi hx hb hr hlk hK rfl hP hD hS dX8_snap_36
      · have he := ifn he c1006
        refine lv_iload_n hx hb dX8_snap_23 rfl (lv_at hl 0 rfl) ?_
        obtain ⟨rfl, rfl⟩ := some2 he
        exact cRi hx hb hr hlk hK rfl hP hD hS dX8_snap_24
    · have he := ifp he c1003
      refine lv_bipush (v := (-2)) hx hb dX8_snap_9 (by decide) ?_
      obtain ⟨rfl, rfl⟩ := some2 he
      exact cRi hx hb hr hlk hK rfl hP hD hS dX8_snap_11
  exact key ss.heap [] rfl rfl hP hS
theorem kX8_tag : yX8_tag.cls = RX8 ∧ yX8_tag.cls ≠ "java/lang/invoke/MethodHandle" ∧ yX8_tag.cls ≠ "java/lang/invoke/VarHandle" ∧ (parseMethodDescriptor yX8_tag.desc).map (fun d => d.parameters.length) = some 2 := by decide +kernel
set_option maxRecDepth 100000 in
set_option maxHeartbeats 4000000 in
theorem mX8_tag (l : Launch) (D : va_G) (k : Nat → ClassId) (g : Nat → Nat) {s_0 : Nat → Int32} {im : Nat → Int32} {fr : Nat → Int32} {hd : Nat → Int32} {nw : Nat → Int32} {hh : Nat → Int32} {qs : Nat → Int32} {qz : Nat → Int32} {it : Nat → Int64} {th : Int32} {hm : Int32} {ow : Int32} {lo : Int32} {p1 : Int32} {p2 : Int32} {r : Int32} {s' : Nat → Int32} (he : xX8_tag s_0 p1 p2 = some (r, s')) : CtI l D k yX8_tag wsX8_tag ({ frames := 4, cells := 0, slots := 0, locals := 87 } : Room) [.ref (g 0), .int p1, .int p2] (wModel k g s_0 im fr hd nw hh qs qz it th hm ow lo) r (wModel k g s' im fr hd nw hh qs qz it th hm ow lo) := by
  intro sz9
  refine cSt (lv := [(0, .ref (g 0)), (1, .int p1), (2, .int p2)]) (own := RX8) (cc := cX8_tag) (nL := 5) (ret := (some .int)) (by decide +kernel) rfl rfl (Nat.le_of_ble_eq_true rfl) rfl ?_
  intro pp ee ss mm bl me co hsz hC0 hP hD hS ls hl
  subst hsz
  obtain ⟨hx, hb, hr, hml, hown, hts, hK, hlk⟩ := hC0
  have hA : ∀ q, ss.heap.size ≤ q → va_A (wModel k g s_0 im fr hd nw hh qs qz it th hm ow lo) ss.heap.size q := fun q h => Or.inr h
  have iX8 : ∀ w ∈ wsX80, w ∈ wsX8_tag := fun _ h => List.mem_cons_of_mem _ (List.mem_append_right _ h)
  have w1 := hts (.fieldLink RX8 7 "DeadListPoolModel" "s" "[I") (List.mem_of_getElem? (i := 1) rfl)
  have hS0 := hS
  have key : ∀ (H : Heap) (locs : List Loc), H = ss.heap → locs = [] → va_P D vwCl (wModel k g s_0 im fr hd nw hh qs qz it th hm ow lo) H → va_S (va_A (wModel k g s_0 im fr hd nw hh qs qz it th hm ow lo) ss.heap.size) ss.heap H locs → W pp l ee ({ frames := 4, cells := 0, slots := 0, locals := 87 } : Room) ss mm ([.ref (g 0), .int p1, .int p2] : List Value).toArray bl me co H locs 0 0 (MQ bl (cQi D k (wModel k g s_0 im fr hd nw hh qs qz it th hm ow lo) ss.heap.size r (wModel k g s' im fr hd nw hh qs qz it th hm ow lo)) ([.ref (g 0), .int p1, .int p2] : List Value).toArray ss 0 0 (va_A (wModel k g s_0 im fr hd nw hh qs qz it th hm ow lo) ss.heap.size)) (F0 mm 0 ls []) := by
    intro H locs _ _ hP hS
    refine lv_iload_n hx hb dX8_tag_0 rfl (lv_at hl 2 rfl) ?_
    refine lv_iconst (v := 0) hx hb dX8_tag_1 (by decide) ?_
    refine lv_bipush (v := 9) hx hb dX8_tag_2 (by decide) ?_
    obtain ⟨v1001, h1002, he⟩ := bn1_i he
    refine cSi (rest := []) ⟨hx, hb, hml, hown, hts⟩ hK hA hP hD hS (mX8_in l D k h1002) (cwS 3 hts gX8_tag_X8_in rfl rfl rfl kX8_in ⟨Nat.le_of_ble_eq_true rfl, Nat.le_of_ble_eq_true rfl⟩) rfl hl.1 rfl (Nat.le_of_ble_eq_true rfl) ⟨Nat.le_refl 0, Nat.le_refl 0⟩ dX8_tag_4 (fun H locs hP hD hS => ?_)
    refine lv_if_ne (tgt := 13) hx hb dX8_tag_7 (by decide) (fun c1003 => ?_) (fun c1003 => ?_)
    · have he := ifn he c1003
      refine lv_aload_n hx hb dX8_tag_13 rfl (lv_at hl 0 rfl) ?_
      refine lv_iload_n hx hb dX8_tag_14 rfl (lv_at hl 1 rfl) ?_
      refine lv_iconst (v := 3) hx hb dX8_tag_15 (by decide) ?_
      obtain ⟨v1004, h1005, he⟩ := bn1_i he
      refine cVir (As := [.int p1, .int 3]) (rest := []) ⟨hx, hb, hml, hown, hts⟩ hK hA hP hD hS (mX8_asked l D k g (s := s_0) (im := im) (fr := fr) (hd := hd) (nw := nw) (hh := hh) (qs := qs) (qz := qz) (it := it) (th := th) (hm := hm) (ow := ow) (lo := lo) h1005) (cwV 2 hts gX8_tag_X8_asked rfl rfl rfl kX8_asked ⟨Nat.le_of_ble_eq_true rfl, Nat.le_of_ble_eq_true rfl⟩) [0, 1, 2, 3, 4, 5, 6, 7, 8, 9] rfl rfl 0 rfl rfl rfl hl.1 rfl (Nat.le_of_ble_eq_true rfl) ⟨Nat.le_refl 0, Nat.le_refl 0⟩ dX8_tag_16 (fun H locs hP hD hS => ?_)
      refine lv_istore_n (lv' := [(3, .int v1004), (0, .ref (g 0)), (1, .int p1), (2, .int p2)]) hx hb dX8_tag_19 rfl hl (by decide) rfl (fun ls hl => ?_)
      refine lv_iload_n hx hb dX8_tag_20 rfl (lv_at hl 0 rfl) ?_
      refine lv_if_eq (tgt := 26) hx hb dX8_tag_21 (by decide) (fun c1006 => ?_) (fun c1006 => ?_)
      · have he := ifp he c1006
        refine lv_aload_n hx hb dX8_tag_26 rfl (lv_at hl 1 rfl) ?_
        refine va_get (D := D) (ci := 8) (v := .ref (g 1)) (C := RX8) (T := TX8) (N := 13) hx hb hts iX8 hown hK hP 0 rfl rfl 1 (by decide) w1 (fun _ h9 => h9) rfl dX8_tag_27 ?_
        refine lv_bipush (v := 102) hx hb dX8_tag_30 (by decide) ?_
        refine lv_iload_n hx hb dX8_tag_32 rfl (lv_at hl 2 rfl) ?_
        refine lv_iadd hx hb dX8_tag_33 ?_
        obtain ⟨h1007, he⟩ := grd_i he
        refine va_iald hx hb hK hP 1 0 rfl rfl (ix_in h1007) dX8_tag_34 ?_
        refine lv_istore (lv' := [(4, .int (s_0 (Int32.toNatClampNeg (102 + p1)))), (3, .int v1004), (0, .ref (g 0)), (1, .int p1), (2, .int p2)]) hx hb dX8_tag_35 hl (by decide) rfl (fun ls hl => ?_)
        refine lv_aload_n hx hb dX8_tag_37 rfl (lv_at hl 2 rfl) ?_
        refine va_get (D := D) (ci := 8) (v := .ref (g 1)) (C := RX8) (T := TX8) (N := 13) hx hb hts iX8 hown hK hP 0 rfl rfl 1 (by decide) w1 (fun _ h9 => h9) rfl dX8_tag_38 ?_
        refine lv_bipush (v := 102) hx hb dX8_tag_41 (by decide) ?_
        refine lv_iload_n hx hb dX8_tag_43 rfl (lv_at hl 3 rfl) ?_
        refine lv_iadd hx hb dX8_tag_44 ?_
        refine lv_iload_n hx hb dX8_tag_45 rfl (lv_at hl 4 rfl) ?_
        obtain ⟨h1008, he⟩ := grd_i he
        obtain ⟨s1009, e1010, he⟩ := lt_i he
        refine va_iast hx hb hK hP hD hS 1 0 rfl rfl (ix_in h1008) dX8_tag_46 (fun H locs hP hD hS => ?_)
        have hP : va_P D vwCl (wModel k g s1009 im fr hd nw hh qs qz it th hm ow lo) H := by rw [e1010]; exact hP
        have hD : va_D _ (wModel k g s1009 im fr hd nw hh qs qz it th hm ow lo) := va_D_adr (by rw [e1010]; rfl) hD
        refine lv_iload hx hb dX8_tag_47 (lv_at hl 0 rfl) ?_
        obtain ⟨rfl, rfl⟩ := some2 he
        exact cRi hx hb hr hlk hK rfl hP hD hS dX8_tag_49
      · have he := ifn he c1006
        refine lv_iload_n hx hb dX8_tag_24 rfl (lv_at hl 0 rfl) ?_
        obtain ⟨rfl, rfl⟩ := some2 he
        exact cRi hx hb hr hlk hK rfl hP hD hS dX8_tag_25
    · have he := ifp he c1003
      refine lv_bipush (v := (-2)) hx hb dX8_tag_10 (by decide) ?_
      obtain ⟨rfl, rfl⟩ := some2 he
      exact cRi hx hb hr hlk hK rfl hP hD hS dX8_tag_12
  exact key ss.heap [] rfl rfl hP hS
theorem kX8_mark : yX8_mark.cls = RX8 ∧ yX8_mark.cls ≠ "java/lang/invoke/MethodHandle" ∧ yX8_mark.cls ≠ "java/lang/invoke/VarHandle" ∧ (parseMethodDescriptor yX8_mark.desc).map (fun d => d.parameters.length) = some 1 := by decide +kernel
set_option maxRecDepth 100000 in
set_option maxHeartbeats 4000000 in
theorem mX8_mark (l : Launch) (D : va_G) (k : Nat → ClassId) (g : Nat → Nat) {s_0 : Nat → Int32} {im : Nat → Int32} {fr : Nat → Int32} {hd : Nat → Int32} {nw : Nat → Int32} {hh : Nat → Int32} {qs : Nat → Int32} {qz : Nat → Int32} {it : Nat → Int64} {th : Int32} {hm : Int32} {ow : Int32} {lo : Int32} {p1 : Int32} {r : Int32} {s' : Nat → Int32} (he : xX8_mark s_0 p1 = some (r, s')) : CtI l D k yX8_mark wsX8_mark ({ frames := 4, cells := 0, slots := 0, locals := 87 } : Room) [.ref (g 0), .int p1] (wModel k g s_0 im fr hd nw hh qs qz it th hm ow lo) r (wModel k g s' im fr hd nw hh qs qz it th hm ow lo) := by
  intro sz9
  refine cSt (lv := [(0, .ref (g 0)), (1, .int p1)]) (own := RX8) (cc := cX8_mark) (nL := 3) (ret := (some .int)) (by decide +kernel) rfl rfl (Nat.le_of_ble_eq_true rfl) rfl ?_
  intro pp ee ss mm bl me co hsz hC0 hP hD hS ls hl
  subst hsz
  obtain ⟨hx, hb, hr, hml, hown, hts, hK, hlk⟩ := hC0
  have hA : ∀ q, ss.heap.size ≤ q → va_A (wModel k g s_0 im fr hd nw hh qs qz it th hm ow lo) ss.heap.size q := fun q h => Or.inr h
  have iX8 : ∀ w ∈ wsX80, w ∈ wsX8_mark := fun _ h => List.mem_cons_of_mem _ (List.mem_append_right _ h)
  have w1 := hts (.fieldLink RX8 7 "DeadListPoolModel" "s" "[I") (List.mem_of_getElem? (i := 1) rfl)
  have hS0 := hS
  have key : ∀ (H : Heap) (locs : List Loc), H = ss.heap → locs = [] → va_P D vwCl (wModel k g s_0 im fr hd nw hh qs qz it th hm ow lo) H → va_S (va_A (wModel k g s_0 im fr hd nw hh qs qz it th hm ow lo) ss.heap.size) ss.heap H locs → W pp l ee ({ frames := 4, cells := 0, slots := 0, locals := 87 } : Room) ss mm ([.ref (g 0), .int p1] : List Value).toArray bl me co H locs 0 0 (MQ bl (cQi D k (wModel k g s_0 im fr hd nw hh qs qz it th hm ow lo) ss.heap.size r (wModel k g s' im fr hd nw hh qs qz it th hm ow lo)) ([.ref (g 0), .int p1] : List Value).toArray ss 0 0 (va_A (wModel k g s_0 im fr hd nw hh qs qz it th hm ow lo) ss.heap.size)) (F0 mm 0 ls []) := by
    intro H locs _ _ hP hS
    refine lv_aload_n hx hb dX8_mark_0 rfl (lv_at hl 0 rfl) ?_
    refine lv_iload_n hx hb dX8_mark_1 rfl (lv_at hl 1 rfl) ?_
    refine lv_iconst (v := 2) hx hb dX8_mark_2 (by decide) ?_
    obtain ⟨v1001, h1002, he⟩ := bn1_i he
    refine cVir (As := [.int p1, .int 2]) (rest := []) ⟨hx, hb, hml, hown, hts⟩ hK hA hP hD hS (mX8_asked l D k g (s := s_0) (im := im) (fr := fr) (hd := hd) (nw := nw) (hh := hh) (qs := qs) (qz := qz) (it := it) (th := th) (hm := hm) (ow := ow) (lo := lo) h1002) (cwV 2 hts gX8_mark_X8_asked rfl rfl rfl kX8_asked ⟨Nat.le_of_ble_eq_true rfl, Nat.le_of_ble_eq_true rfl⟩) [0, 1, 2, 3, 4, 5, 6, 7, 8, 9] rfl rfl 0 rfl rfl rfl hl.1 rfl (Nat.le_of_ble_eq_true rfl) ⟨Nat.le_refl 0, Nat.le_refl 0⟩ dX8_mark_3 (fun H locs hP hD hS => ?_)
    refine lv_istore_n (lv' := [(2, .int v1001), (0, .ref (g 0)), (1, .int p1)]) hx hb dX8_mark_6 rfl hl (by decide) rfl (fun ls hl => ?_)
    refine lv_iload_n hx hb dX8_mark_7 rfl (lv_at hl 0 rfl) ?_
    refine lv_if_eq (tgt := 13) hx hb dX8_mark_8 (by decide) (fun c1003 => ?_) (fun c1003 => ?_)
    · have he := ifp he c1003
      refine lv_aload_n hx hb dX8_mark_13 rfl (lv_at hl 1 rfl) ?_
      obtain ⟨v1004, h1005, he⟩ := bn1_i he
      refine cVir (As := []) (rest := []) ⟨hx, hb, hml, hown, hts⟩ hK hA hP hD hS (mX8_newThing l D k g (s := s_0) (im := im) (fr := fr) (hd := hd) (nw := nw) (hh := hh) (qs := qs) (qz := qz) (it := it) (th := th) (hm := hm) (ow := ow) (lo := lo) h1005) (cwV 0 hts gX8_mark_X8_newThing rfl rfl rfl kX8_newThing ⟨Nat.le_of_ble_eq_true rfl, Nat.le_of_ble_eq_true rfl⟩) [0, 1, 2, 3, 4, 5, 6, 7, 8, 9] rfl rfl 0 rfl rfl rfl hl.1 rfl (Nat.le_of_ble_eq_true rfl) ⟨Nat.le_refl 0, Nat.le_refl 0⟩ dX8_mark_14 (fun H locs hP hD hS => ?_)
      refine lv_bipush (v := 20) hx hb dX8_mark_17 (by decide) ?_
      refine lv_icmp_ne (tgt := 27) hx hb dX8_mark_19 (by decide) (fun c1006 => ?_) (fun c1006 => ?_)
      · have he := ifn he c1006
        refine lv_aload_n hx hb dX8_mark_27 rfl (lv_at hl 1 rfl) ?_
        refine lv_iconst (v := 4) hx hb dX8_mark_28 (by decide) ?_
        refine lv_aload_n hx hb dX8_mark_29 rfl (lv_at hl 1 rfl) ?_
        refine va_get (D := D) (ci := 8) (v := .ref (g 1)) (C := RX8) (T := TX8) (N := 13) hx hb hts iX8 hown hK hP 0 rfl rfl 1 (by decide) w1 (fun _ h9 => h9) rfl dX8_mark_30 ?_
        refine lv_bipush (v := 22) hx hb dX8_mark_33 (by decide) ?_
        refine lv_iload_n hx hb dX8_mark_35 rfl (lv_at hl 2 rfl) ?_
        refine lv_iadd hx hb dX8_mark_36 ?_
        obtain ⟨h1007, he⟩ := grd_i he
        refine va_iald hx hb hK hP 1 0 rfl rfl (ix_in h1007) dX8_mark_37 ?_
        obtain ⟨v1008, s1009, h1010, he⟩ := bn2_i he
        refine cVi (wf := (wModel k g s1009 im fr hd nw hh qs qz it th hm ow lo)) (As := [.int 4, .int (s_0 (Int32.toNatClampNeg (22 + p1)))]) (rest := []) ⟨hx, hb, hml, hown, hts⟩ hK hA hP hD hS (mX8_comes l D k g (s_0 := s_0) (im := im) (fr := fr) (hd := hd) (nw := nw) (hh := hh) (qs := qs) (qz := qz) (it := it) (th := th) (hm := hm) (ow := ow) (lo := lo) h1010) (cwV 2 hts gX8_mark_X8_comes rfl rfl rfl kX8_comes ⟨Nat.le_of_ble_eq_true rfl, Nat.le_of_ble_eq_true rfl⟩) [0, 1, 2, 3, 4, 5, 6, 7, 8, 9] rfl rfl rfl [false, false, false, false, false, false, false, false, false, false] trivial 10 rfl (by decide +kernel) rfl 0 rfl rfl rfl hl.1 rfl (Nat.le_of_ble_eq_true rfl) ⟨Nat.le_refl 0, Nat.le_refl 0⟩ dX8_mark_38 (fun H locs hP hD hS => ?_)
        obtain ⟨rfl, rfl⟩ := some2 he
        exact cRi hx hb hr hlk hK rfl hP hD hS dX8_mark_41
      · have he := ifp he c1006
        refine lv_bipush (v := (-4)) hx hb dX8_mark_22 (by decide) ?_
        refine lv_goto (tgt := 41) hx hb dX8_mark_24 (by decide) ?_
        obtain ⟨rfl, rfl⟩ := some2 he
        exact cRi hx hb hr hlk hK rfl hP hD hS dX8_mark_41
    · have he := ifn he c1003
      refine lv_iload_n hx hb dX8_mark_11 rfl (lv_at hl 0 rfl) ?_
      obtain ⟨rfl, rfl⟩ := some2 he
      exact cRi hx hb hr hlk hK rfl hP hD hS dX8_mark_12
  exact key ss.heap [] rfl rfl hP hS
theorem kX8_nexts : yX8_nexts.cls = RX8 ∧ yX8_nexts.cls ≠ "java/lang/invoke/MethodHandle" ∧ yX8_nexts.cls ≠ "java/lang/invoke/VarHandle" ∧ (parseMethodDescriptor yX8_nexts.desc).map (fun d => d.parameters.length) = some 1 := by decide +kernel
set_option maxRecDepth 100000 in
set_option maxHeartbeats 4000000 in
theorem mX8_nexts (l : Launch) (D : va_G) (k : Nat → ClassId) (g : Nat → Nat) {s : Nat → Int32} {im : Nat → Int32} {fr : Nat → Int32} {hd : Nat → Int32} {nw : Nat → Int32} {hh : Nat → Int32} {qs : Nat → Int32} {qz : Nat → Int32} {it : Nat → Int64} {th : Int32} {hm : Int32} {ow : Int32} {lo : Int32} {p1 : Int32} {r : Int32}  (he : xX8_nexts s p1 = some r) : CtI l D k yX8_nexts wsX8_nexts ({ frames := 4, cells := 0, slots := 0, locals := 85 } : Room) [.ref (g 0), .int p1] (wModel k g s im fr hd nw hh qs qz it th hm ow lo) r (wModel k g s im fr hd nw hh qs qz it th hm ow lo) := by
  intro sz9
  refine cSt (lv := [(0, .ref (g 0)), (1, .int p1)]) (own := RX8) (cc := cX8_nexts) (nL := 4) (ret := (some .int)) (by decide +kernel) rfl rfl (Nat.le_of_ble_eq_true rfl) rfl ?_
  intro pp ee ss mm bl me co hsz hC0 hP hD hS ls hl
  subst hsz
  obtain ⟨hx, hb, hr, hml, hown, hts, hK, hlk⟩ := hC0
  have hA : ∀ q, ss.heap.size ≤ q → va_A (wModel k g s im fr hd nw hh qs qz it th hm ow lo) ss.heap.size q := fun q h => Or.inr h
  have iX8 : ∀ w ∈ wsX80, w ∈ wsX8_nexts := fun _ h => List.mem_cons_of_mem _ (List.mem_append_right _ h)
  have w1 := hts (.fieldLink RX8 7 "DeadListPoolModel" "s" "[I") (List.mem_of_getElem? (i := 1) rfl)
  have B4 : ∀ (n4 : Nat) (x1 : Int32) (x2 : Int32) (x3 : Int32), xX8_nexts_4 s n4 x1 x2 x3 = some r → ∀ (H : Heap) (locs : List Loc), va_P D vwCl (wModel k g s im fr hd nw hh qs qz it th hm ow lo) H → va_D (va_A (wModel k g s im fr hd nw hh qs qz it th hm ow lo) ss.heap.size) (wModel k g s im fr hd nw hh qs qz it th hm ow lo) → va_S (va_A (wModel k g s im fr hd nw hh qs qz it th hm ow lo) ss.heap.size) ss.heap H locs → ∀ ls : Array Slot, lv_has ls 4 [(0, .ref (g 0)), (1, .int x1), (2, .int x2), (3, .int x3)] → W pp l ee ({ frames := 4, cells := 0, slots := 0, locals := 85 } : Room) ss mm ([.ref (g 0), .int p1] : List Value).toArray bl me co H locs 0 0 (MQ bl (cQi D k (wModel k g s im fr hd nw hh qs qz it th hm ow lo) ss.heap.size r (wModel k g s im fr hd nw hh qs qz it th hm ow lo)) ([.ref (g 0), .int p1] : List Value).toArray ss 0 0 (va_A (wModel k g s im fr hd nw hh qs qz it th hm ow lo) ss.heap.size)) (F0 mm 4 ls []) := by
    intro n4
    induction n4 with
    | zero =>
      intro x1 x2 x3 he
      exact absurd (show (none : Option (Int32)) = some r from he) (by simp)
    | succ n4 ih4 =>
      intro x1 x2 x3 he H locs hP hD hS ls hl
      refine lv_iload_n hx hb dX8_nexts_4 rfl (lv_at hl 3 rfl) ?_
      refine lv_bipush (v := 20) hx hb dX8_nexts_5 (by decide) ?_
      refine lv_icmp_ge (tgt := 45) hx hb dX8_nexts_7 (by decide) (fun c1 => ?_) (fun c1 => ?_)
      · have he := ifp he c1
        refine lv_iload_n hx hb dX8_nexts_45 rfl (lv_at hl 2 rfl) ?_
        obtain rfl := some1 he
        exact cRi hx hb hr hlk hK rfl hP hD hS dX8_nexts_46
      · have he := ifn he c1
        refine lv_iload_n hx hb dX8_nexts_10 rfl (lv_at hl 2 rfl) ?_
        refine lv_aload_n hx hb dX8_nexts_11 rfl (lv_at hl 0 rfl) ?_
        refine lv_iload_n hx hb dX8_nexts_12 rfl (lv_at hl 3 rfl) ?_
        obtain ⟨v2, h3, he⟩ := bn1_i he
        refine cVir (As := [.int x3]) (rest := [.int x2]) ⟨hx, hb, hml, hown, hts⟩ hK hA hP hD hS (mX8_hasSlots l D k g (s := s) (im := im) (fr := fr) (hd := hd) (nw := nw) (hh := hh) (qs := qs) (qz := qz) (it := it) (th := th) (hm := hm) (ow := ow) (lo := lo) h3) (cwV 1 hts gX8_nexts_X8_hasSlots rfl rfl rfl kX8_hasSlots ⟨Nat.le_of_ble_eq_true rfl, Nat.le_of_ble_eq_true rfl⟩) [0, 1, 2, 3, 4, 5, 6, 7, 8, 9] rfl rfl 0 rfl rfl rfl hl.1 rfl (Nat.le_of_ble_eq_true rfl) ⟨Nat.le_refl 0, Nat.le_refl 0⟩ dX8_nexts_13 (fun H locs hP hD hS => ?_)
        refine lv_if_eq (tgt := 36) hx hb dX8_nexts_16 (by decide) (fun c4 => ?_) (fun c4 => ?_)
        · have he := ifp he c4
          refine lv_iconst (v := 0) hx hb dX8_nexts_36 (by decide) ?_
          refine lv_iadd hx hb dX8_nexts_37 ?_
          refine lv_istore_n (lv' := [(2, .int (x2 + 0)), (0, .ref (g 0)), (1, .int x1), (3, .int x3)]) hx hb dX8_nexts_38 rfl hl (by decide) rfl (fun ls hl => ?_)
          refine lv_iinc (v := (x3 + 1)) (lv' := [(3, .int (x3 + 1)), (2, .int (x2 + 0)), (0, .ref (g 0)), (1, .int x1)]) hx hb dX8_nexts_39 hl (k := 3) rfl rfl (by decide) rfl (fun ls hl => ?_)
          refine lv_goto (tgt := 4) hx hb dX8_nexts_42 (by decide) ?_
          exact ih4 x1 (x2 + 0) (x3 + 1) he H locs hP hD hS ls (lv_sub hl [2, 3, 1, 0] rfl)
        · have he := ifn he c4
          refine lv_aload_n hx hb dX8_nexts_19 rfl (lv_at hl 0 rfl) ?_
          refine va_get (D := D) (ci := 8) (v := .ref (g 1)) (C := RX8) (T := TX8) (N := 13) hx hb hts iX8 hown hK hP 0 rfl rfl 1 (by decide) w1 (fun _ h9 => h9) rfl dX8_nexts_20 ?_
          refine lv_bipush (v := 42) hx hb dX8_nexts_23 (by decide) ?_
          refine lv_iload_n hx hb dX8_nexts_25 rfl (lv_at hl 3 rfl) ?_
          refine lv_iadd hx hb dX8_nexts_26 ?_
          obtain ⟨h5, he⟩ := grd_i he
          refine va_iald hx hb hK hP 1 0 rfl rfl (ix_in h5) dX8_nexts_27 ?_
          refine lv_iload_n hx hb dX8_nexts_28 rfl (lv_at hl 1 rfl) ?_
          refine lv_icmp_ne (tgt := 36) hx hb dX8_nexts_29 (by decide) (fun c6 => ?_) (fun c6 => ?_)
          · have he := ifn he c6
            refine lv_iconst (v := 0) hx hb dX8_nexts_36 (by decide) ?_
            refine lv_iadd hx hb dX8_nexts_37 ?_
            refine lv_istore_n (lv' := [(2, .int (x2 + 0)), (0, .ref (g 0)), (1, .int x1), (3, .int x3)]) hx hb dX8_nexts_38 rfl hl (by decide) rfl (fun ls hl => ?_)
            refine lv_iinc (v := (x3 + 1)) (lv' := [(3, .int (x3 + 1)), (2, .int (x2 + 0)), (0, .ref (g 0)), (1, .int x1)]) hx hb dX8_nexts_39 hl (k := 3) rfl rfl (by decide) rfl (fun ls hl => ?_)
            refine lv_goto (tgt := 4) hx hb dX8_nexts_42 (by decide) ?_
            exact ih4 x1 (x2 + 0) (x3 + 1) he H locs hP hD hS ls (lv_sub hl [2, 3, 1, 0] rfl)
          · have he := ifp he c6
            refine lv_iconst (v := 1) hx hb dX8_nexts_32 (by decide) ?_
            refine lv_goto (tgt := 37) hx hb dX8_nexts_33 (by decide) ?_
            refine lv_iadd hx hb dX8_nexts_37 ?_
            refine lv_istore_n (lv' := [(2, .int (x2 + 1)), (0, .ref (g 0)), (1, .int x1), (3, .int x3)]) hx hb dX8_nexts_38 rfl hl (by decide) rfl (fun ls hl => ?_)
            refine lv_iinc (v := (x3 + 1)) (lv' := [(3, .int (x3 + 1)), (2, .int (x2 + 1)), (0, .ref (g 0)), (1, .int x1)]) hx hb dX8_nexts_39 hl (k := 3) rfl rfl (by decide) rfl (fun ls hl => ?_)
            refine lv_goto (tgt := 4) hx hb dX8_nexts_42 (by decide) ?_
            exact ih4 x1 (x2 + 1) (x3 + 1) he H locs hP hD hS ls (lv_sub hl [2, 3, 1, 0] rfl)
  have hS0 := hS
  have key : ∀ (H : Heap) (locs : List Loc), H = ss.heap → locs = [] → va_P D vwCl (wModel k g s im fr hd nw hh qs qz it th hm ow lo) H → va_S (va_A (wModel k g s im fr hd nw hh qs qz it th hm ow lo) ss.heap.size) ss.heap H locs → W pp l ee ({ frames := 4, cells := 0, slots := 0, locals := 85 } : Room) ss mm ([.ref (g 0), .int p1] : List Value).toArray bl me co H locs 0 0 (MQ bl (cQi D k (wModel k g s im fr hd nw hh qs qz it th hm ow lo) ss.heap.size r (wModel k g s im fr hd nw hh qs qz it th hm ow lo)) ([.ref (g 0), .int p1] : List Value).toArray ss 0 0 (va_A (wModel k g s im fr hd nw hh qs qz it th hm ow lo) ss.heap.size)) (F0 mm 0 ls []) := by
    intro H locs _ _ hP hS
    refine lv_iconst (v := 0) hx hb dX8_nexts_0 (by decide) ?_
    refine lv_istore_n (lv' := [(2, .int 0), (0, .ref (g 0)), (1, .int p1)]) hx hb dX8_nexts_1 rfl hl (by decide) rfl (fun ls hl => ?_)
    refine lv_iconst (v := 0) hx hb dX8_nexts_2 (by decide) ?_
    refine lv_istore_n (lv' := [(3, .int 0), (2, .int 0), (0, .ref (g 0)), (1, .int p1)]) hx hb dX8_nexts_3 rfl hl (by decide) rfl (fun ls hl => ?_)
    exact B4 600 p1 0 0 he H locs hP hD hS ls (lv_sub hl [2, 3, 1, 0] rfl)
  exact key ss.heap [] rfl rfl hP hS
theorem kX8_owned : yX8_owned.cls = RX8 ∧ yX8_owned.cls ≠ "java/lang/invoke/MethodHandle" ∧ yX8_owned.cls ≠ "java/lang/invoke/VarHandle" ∧ (parseMethodDescriptor yX8_owned.desc).map (fun d => d.parameters.length) = some 1 := by decide +kernel
set_option maxRecDepth 100000 in
set_option maxHeartbeats 4000000 in
theorem mX8_owned (l : Launch) (D : va_G) (k : Nat → ClassId) (g : Nat → Nat) {s : Nat → Int32} {im : Nat → Int32} {fr : Nat → Int32} {hd : Nat → Int32} {nw : Nat → Int32} {hh : Nat → Int32} {qs : Nat → Int32} {qz : Nat → Int32} {it : Nat → Int64} {th : Int32} {hm : Int32} {ow : Int32} {lo : Int32} {p1 : Int32} {r : Int32}  (he : xX8_owned s p1 = some r) : CtI l D k yX8_owned wsX8_owned ({ frames := 3, cells := 0, slots := 0, locals := 64 } : Room) [.ref (g 0), .int p1] (wModel k g s im fr hd nw hh qs qz it th hm ow lo) r (wModel k g s im fr hd nw hh qs qz it th hm ow lo) := by
  intro sz9
  refine cSt (lv := [(0, .ref (g 0)), (1, .int p1)]) (own := RX8) (cc := cX8_owned) (nL := 4) (ret := (some .int)) (by decide +kernel) rfl rfl (Nat.le_of_ble_eq_true rfl) rfl ?_
  intro pp ee ss mm bl me co hsz hC0 hP hD hS ls hl
  subst hsz
  obtain ⟨hx, hb, hr, hml, hown, hts, hK, hlk⟩ := hC0
  have hA : ∀ q, ss.heap.size ≤ q → va_A (wModel k g s im fr hd nw hh qs qz it th hm ow lo) ss.heap.size q := fun q h => Or.inr h
  have iX8 : ∀ w ∈ wsX80, w ∈ wsX8_owned := fun _ h => List.mem_cons_of_mem _ (List.mem_append_right _ h)
  have w1 := hts (.fieldLink RX8 7 "DeadListPoolModel" "s" "[I") (List.mem_of_getElem? (i := 1) rfl)
  have B4 : ∀ (n4 : Nat) (x1 : Int32) (x2 : Int32) (x3 : Int32), xX8_owned_4 s n4 x1 x2 x3 = some r → ∀ (H : Heap) (locs : List Loc), va_P D vwCl (wModel k g s im fr hd nw hh qs qz it th hm ow lo) H → va_D (va_A (wModel k g s im fr hd nw hh qs qz it th hm ow lo) ss.heap.size) (wModel k g s im fr hd nw hh qs qz it th hm ow lo) → va_S (va_A (wModel k g s im fr hd nw hh qs qz it th hm ow lo) ss.heap.size) ss.heap H locs → ∀ ls : Array Slot, lv_has ls 4 [(0, .ref (g 0)), (1, .int x1), (2, .int x2), (3, .int x3)] → W pp l ee ({ frames := 3, cells := 0, slots := 0, locals := 64 } : Room) ss mm ([.ref (g 0), .int p1] : List Value).toArray bl me co H locs 0 0 (MQ bl (cQi D k (wModel k g s im fr hd nw hh qs qz it th hm ow lo) ss.heap.size r (wModel k g s im fr hd nw hh qs qz it th hm ow lo)) ([.ref (g 0), .int p1] : List Value).toArray ss 0 0 (va_A (wModel k g s im fr hd nw hh qs qz it th hm ow lo) ss.heap.size)) (F0 mm 4 ls []) := by
    intro n4
    induction n4 with
    | zero =>
      intro x1 x2 x3 he
      exact absurd (show (none : Option (Int32)) = some r from he) (by simp)
    | succ n4 ih4 =>
      intro x1 x2 x3 he H locs hP hD hS ls hl
      refine lv_iload_n hx hb dX8_owned_4 rfl (lv_at hl 3 rfl) ?_
      refine lv_bipush (v := 20) hx hb dX8_owned_5 (by decide) ?_
      refine lv_icmp_ge (tgt := 45) hx hb dX8_owned_7 (by decide) (fun c1 => ?_) (fun c1 => ?_)
      · have he := ifp he c1
        refine lv_iload_n hx hb dX8_owned_45 rfl (lv_at hl 2 rfl) ?_
        obtain rfl := some1 he
        exact cRi hx hb hr hlk hK rfl hP hD hS dX8_owned_46
      · have he := ifn he c1
        refine lv_iload_n hx hb dX8_owned_10 rfl (lv_at hl 2 rfl) ?_
        refine lv_aload_n hx hb dX8_owned_11 rfl (lv_at hl 0 rfl) ?_
        refine lv_iload_n hx hb dX8_owned_12 rfl (lv_at hl 3 rfl) ?_
        obtain ⟨v2, h3, he⟩ := bn1_i he
        refine cVir (As := [.int x3]) (rest := [.int x2]) ⟨hx, hb, hml, hown, hts⟩ hK hA hP hD hS (mX8_isSnapshot l D k g (s := s) (im := im) (fr := fr) (hd := hd) (nw := nw) (hh := hh) (qs := qs) (qz := qz) (it := it) (th := th) (hm := hm) (ow := ow) (lo := lo) h3) (cwV 1 hts gX8_owned_X8_isSnapshot rfl rfl rfl kX8_isSnapshot ⟨Nat.le_of_ble_eq_true rfl, Nat.le_of_ble_eq_true rfl⟩) [0, 1, 2, 3, 4, 5, 6, 7, 8, 9] rfl rfl 0 rfl rfl rfl hl.1 rfl (Nat.le_of_ble_eq_true rfl) ⟨Nat.le_refl 0, Nat.le_refl 0⟩ dX8_owned_13 (fun H locs hP hD hS => ?_)
        refine lv_if_eq (tgt := 36) hx hb dX8_owned_16 (by decide) (fun c4 => ?_) (fun c4 => ?_)
        · have he := ifp he c4
          refine lv_iconst (v := 0) hx hb dX8_owned_36 (by decide) ?_
          refine lv_iadd hx hb dX8_owned_37 ?_
          refine lv_istore_n (lv' := [(2, .int (x2 + 0)), (0, .ref (g 0)), (1, .int x1), (3, .int x3)]) hx hb dX8_owned_38 rfl hl (by decide) rfl (fun ls hl => ?_)
          refine lv_iinc (v := (x3 + 1)) (lv' := [(3, .int (x3 + 1)), (2, .int (x2 + 0)), (0, .ref (g 0)), (1, .int x1)]) hx hb dX8_owned_39 hl (k := 3) rfl rfl (by decide) rfl (fun ls hl => ?_)
          refine lv_goto (tgt := 4) hx hb dX8_owned_42 (by decide) ?_
          exact ih4 x1 (x2 + 0) (x3 + 1) he H locs hP hD hS ls (lv_sub hl [2, 3, 1, 0] rfl)
        · have he := ifn he c4
          refine lv_aload_n hx hb dX8_owned_19 rfl (lv_at hl 0 rfl) ?_
          refine va_get (D := D) (ci := 8) (v := .ref (g 1)) (C := RX8) (T := TX8) (N := 13) hx hb hts iX8 hown hK hP 0 rfl rfl 1 (by decide) w1 (fun _ h9 => h9) rfl dX8_owned_20 ?_
          refine lv_bipush (v := 62) hx hb dX8_owned_23 (by decide) ?_
          refine lv_iload_n hx hb dX8_owned_25 rfl (lv_at hl 3 rfl) ?_
          refine lv_iadd hx hb dX8_owned_26 ?_
          obtain ⟨h5, he⟩ := grd_i he
          refine va_iald hx hb hK hP 1 0 rfl rfl (ix_in h5) dX8_owned_27 ?_
          refine lv_iload_n hx hb dX8_owned_28 rfl (lv_at hl 1 rfl) ?_
          refine lv_icmp_ne (tgt := 36) hx hb dX8_owned_29 (by decide) (fun c6 => ?_) (fun c6 => ?_)
          · have he := ifn he c6
            refine lv_iconst (v := 0) hx hb dX8_owned_36 (by decide) ?_
            refine lv_iadd hx hb dX8_owned_37 ?_
            refine lv_istore_n (lv' := [(2, .int (x2 + 0)), (0, .ref (g 0)), (1, .int x1), (3, .int x3)]) hx hb dX8_owned_38 rfl hl (by decide) rfl (fun ls hl => ?_)
            refine lv_iinc (v := (x3 + 1)) (lv' := [(3, .int (x3 + 1)), (2, .int (x2 + 0)), (0, .ref (g 0)), (1, .int x1)]) hx hb dX8_owned_39 hl (k := 3) rfl rfl (by decide) rfl (fun ls hl => ?_)
            refine lv_goto (tgt := 4) hx hb dX8_owned_42 (by decide) ?_
            exact ih4 x1 (x2 + 0) (x3 + 1) he H locs hP hD hS ls (lv_sub hl [2, 3, 1, 0] rfl)
          · have he := ifp he c6
            refine lv_iconst (v := 1) hx hb dX8_owned_32 (by decide) ?_
            refine lv_goto (tgt := 37) hx hb dX8_owned_33 (by decide) ?_
            refine lv_iadd hx hb dX8_owned_37 ?_
            refine lv_istore_n (lv' := [(2, .int (x2 + 1)), (0, .ref (g 0)), (1, .int x1), (3, .int x3)]) hx hb dX8_owned_38 rfl hl (by decide) rfl (fun ls hl => ?_)
            refine lv_iinc (v := (x3 + 1)) (lv' := [(3, .int (x3 + 1)), (2, .int (x2 + 1)), (0, .ref (g 0)), (1, .int x1)]) hx hb dX8_owned_39 hl (k := 3) rfl rfl (by decide) rfl (fun ls hl => ?_)
            refine lv_goto (tgt := 4) hx hb dX8_owned_42 (by decide) ?_
            exact ih4 x1 (x2 + 1) (x3 + 1) he H locs hP hD hS ls (lv_sub hl [2, 3, 1, 0] rfl)
  have hS0 := hS
  have key : ∀ (H : Heap) (locs : List Loc), H = ss.heap → locs = [] → va_P D vwCl (wModel k g s im fr hd nw hh qs qz it th hm ow lo) H → va_S (va_A (wModel k g s im fr hd nw hh qs qz it th hm ow lo) ss.heap.size) ss.heap H locs → W pp l ee ({ frames := 3, cells := 0, slots := 0, locals := 64 } : Room) ss mm ([.ref (g 0), .int p1] : List Value).toArray bl me co H locs 0 0 (MQ bl (cQi D k (wModel k g s im fr hd nw hh qs qz it th hm ow lo) ss.heap.size r (wModel k g s im fr hd nw hh qs qz it th hm ow lo)) ([.ref (g 0), .int p1] : List Value).toArray ss 0 0 (va_A (wModel k g s im fr hd nw hh qs qz it th hm ow lo) ss.heap.size)) (F0 mm 0 ls []) := by
    intro H locs _ _ hP hS
    refine lv_iconst (v := 0) hx hb dX8_owned_0 (by decide) ?_
    refine lv_istore_n (lv' := [(2, .int 0), (0, .ref (g 0)), (1, .int p1)]) hx hb dX8_owned_1 rfl hl (by decide) rfl (fun ls hl => ?_)
    refine lv_iconst (v := 0) hx hb dX8_owned_2 (by decide) ?_
    refine lv_istore_n (lv' := [(3, .int 0), (2, .int 0), (0, .ref (g 0)), (1, .int p1)]) hx hb dX8_owned_3 rfl hl (by decide) rfl (fun ls hl => ?_)
    exact B4 600 p1 0 0 he H locs hP hD hS ls (lv_sub hl [2, 3, 1, 0] rfl)
  exact key ss.heap [] rfl rfl hP hS
theorem kX8_isLoose : yX8_isLoose.cls = RX8 ∧ yX8_isLoose.cls ≠ "java/lang/invoke/MethodHandle" ∧ yX8_isLoose.cls ≠ "java/lang/invoke/VarHandle" ∧ (parseMethodDescriptor yX8_isLoose.desc).map (fun d => d.parameters.length) = some 1 := by decide +kernel
set_option maxRecDepth 100000 in
set_option maxHeartbeats 4000000 in
theorem mX8_isLoose (l : Launch) (D : va_G) (k : Nat → ClassId) (g : Nat → Nat) {s : Nat → Int32} {im : Nat → Int32} {fr : Nat → Int32} {hd : Nat → Int32} {nw : Nat → Int32} {hh : Nat → Int32} {qs : Nat → Int32} {qz : Nat → Int32} {it : Nat → Int64} {th : Int32} {hm : Int32} {ow : Int32} {lo : Int32} {p1 : Int32} {r : Int32}  (he : xX8_isLoose s p1 = some r) : CtI l D k yX8_isLoose wsX8_isLoose ({ frames := 5, cells := 0, slots := 0, locals := 108 } : Room) [.ref (g 0), .int p1] (wModel k g s im fr hd nw hh qs qz it th hm ow lo) r (wModel k g s im fr hd nw hh qs qz it th hm ow lo) := by
  intro sz9
  refine cSt (lv := [(0, .ref (g 0)), (1, .int p1)]) (own := RX8) (cc := cX8_isLoose) (nL := 2) (ret := (some .boolean)) (by decide +kernel) rfl rfl (Nat.le_of_ble_eq_true rfl) rfl ?_
  intro pp ee ss mm bl me co hsz hC0 hP hD hS ls hl
  subst hsz
  obtain ⟨hx, hb, hr, hml, hown, hts, hK, hlk⟩ := hC0
  have hA : ∀ q, ss.heap.size ≤ q → va_A (wModel k g s im fr hd nw hh qs qz it th hm ow lo) ss.heap.size q := fun q h => Or.inr h
  have iX8 : ∀ w ∈ wsX80, w ∈ wsX8_isLoose := fun _ h => List.mem_cons_of_mem _ (List.mem_append_right _ h)
  have w1 := hts (.fieldLink RX8 7 "DeadListPoolModel" "s" "[I") (List.mem_of_getElem? (i := 1) rfl)
  have hS0 := hS
  have key : ∀ (H : Heap) (locs : List Loc), H = ss.heap → locs = [] → va_P D vwCl (wModel k g s im fr hd nw hh qs qz it th hm ow lo) H → va_S (va_A (wModel k g s im fr hd nw hh qs qz it th hm ow lo) ss.heap.size) ss.heap H locs → W pp l ee ({ frames := 5, cells := 0, slots := 0, locals := 108 } : Room) ss mm ([.ref (g 0), .int p1] : List Value).toArray bl me co H locs 0 0 (MQ bl (cQi D k (wModel k g s im fr hd nw hh qs qz it th hm ow lo) ss.heap.size r (wModel k g s im fr hd nw hh qs qz it th hm ow lo)) ([.ref (g 0), .int p1] : List Value).toArray ss 0 0 (va_A (wModel k g s im fr hd nw hh qs qz it th hm ow lo) ss.heap.size)) (F0 mm 0 ls []) := by
    intro H locs _ _ hP hS
    refine lv_aload_n hx hb dX8_isLoose_0 rfl (lv_at hl 0 rfl) ?_
    refine va_get (D := D) (ci := 8) (v := .ref (g 1)) (C := RX8) (T := TX8) (N := 13) hx hb hts iX8 hown hK hP 0 rfl rfl 1 (by decide) w1 (fun _ h9 => h9) rfl dX8_isLoose_1 ?_
    refine lv_bipush (v := 102) hx hb dX8_isLoose_4 (by decide) ?_
    refine lv_iload_n hx hb dX8_isLoose_6 rfl (lv_at hl 1 rfl) ?_
    refine lv_iadd hx hb dX8_isLoose_7 ?_
    obtain ⟨h1001, he⟩ := grd_i he
    refine va_iald hx hb hK hP 1 0 rfl rfl (ix_in h1001) dX8_isLoose_8 ?_
    refine lv_if_ne (tgt := 25) hx hb dX8_isLoose_9 (by decide) (fun c1002 => ?_) (fun c1002 => ?_)
    · have he := ifn he c1002
      refine lv_iconst (v := 0) hx hb dX8_isLoose_25 (by decide) ?_
      obtain rfl := some1 he
      exact cRi hx hb hr hlk hK rfl hP hD hS dX8_isLoose_26
    · have he := ifp he c1002
      refine lv_aload_n hx hb dX8_isLoose_12 rfl (lv_at hl 0 rfl) ?_
      refine lv_iload_n hx hb dX8_isLoose_13 rfl (lv_at hl 1 rfl) ?_
      obtain ⟨v1003, h1004, he⟩ := bn1_i he
      refine cVir (As := [.int p1]) (rest := []) ⟨hx, hb, hml, hown, hts⟩ hK hA hP hD hS (mX8_nexts l D k g (s := s) (im := im) (fr := fr) (hd := hd) (nw := nw) (hh := hh) (qs := qs) (qz := qz) (it := it) (th := th) (hm := hm) (ow := ow) (lo := lo) h1004) (cwV 1 hts gX8_isLoose_X8_nexts rfl rfl rfl kX8_nexts ⟨Nat.le_of_ble_eq_true rfl, Nat.le_of_ble_eq_true rfl⟩) [0, 1, 2, 3, 4, 5, 6, 7, 8, 9] rfl rfl 0 rfl rfl rfl hl.1 rfl (Nat.le_of_ble_eq_true rfl) ⟨Nat.le_refl 0, Nat.le_refl 0⟩ dX8_isLoose_14 (fun H locs hP hD hS => ?_)
      refine lv_iconst (v := 1) hx hb dX8_isLoose_17 (by decide) ?_
      refine lv_icmp_ne (tgt := 25) hx hb dX8_isLoose_18 (by decide) (fun c1005 => ?_) (fun c1005 => ?_)
      · have he := ifn he c1005
        refine lv_iconst (v := 0) hx hb dX8_isLoose_25 (by decide) ?_
        obtain rfl := some1 he
        exact cRi hx hb hr hlk hK rfl hP hD hS dX8_isLoose_26
      · have he := ifp he c1005
        refine lv_iconst (v := 1) hx hb dX8_isLoose_21 (by decide) ?_
        refine lv_goto (tgt := 26) hx hb dX8_isLoose_22 (by decide) ?_
        obtain rfl := some1 he
        exact cRi hx hb hr hlk hK rfl hP hD hS dX8_isLoose_26
  exact key ss.heap [] rfl rfl hP hS
theorem kX8_removed : yX8_removed.cls = RX8 ∧ yX8_removed.cls ≠ "java/lang/invoke/MethodHandle" ∧ yX8_removed.cls ≠ "java/lang/invoke/VarHandle" ∧ (parseMethodDescriptor yX8_removed.desc).map (fun d => d.parameters.length) = some 1 := by decide +kernel
set_option maxRecDepth 100000 in
set_option maxHeartbeats 4000000 in
theorem mX8_removed (l : Launch) (D : va_G) (k : Nat → ClassId) (g : Nat → Nat) {s_0 : Nat → Int32} {im : Nat → Int32} {fr : Nat → Int32} {hd_0 : Nat → Int32} {nw : Nat → Int32} {hh : Nat → Int32} {qs : Nat → Int32} {qz : Nat → Int32} {it : Nat → Int64} {th : Int32} {hm : Int32} {ow : Int32} {lo : Int32} {p1 : Int32} {r : Int32} {s' : Nat → Int32} {hd' : Nat → Int32} (he : xX8_removed s_0 hd_0 p1 = some (r, s', hd')) : CtI l D k yX8_removed wsX8_removed ({ frames := 6, cells := 0, slots := 0, locals := 130 } : Room) [.ref (g 0), .int p1] (wModel k g s_0 im fr hd_0 nw hh qs qz it th hm ow lo) r (wModel k g s' im fr hd' nw hh qs qz it th hm ow lo) := by
  intro sz9
  refine cSt (lv := [(0, .ref (g 0)), (1, .int p1)]) (own := RX8) (cc := cX8_removed) (nL := 3) (ret := (some .int)) (by decide +kernel) rfl rfl (Nat.le_of_ble_eq_true rfl) rfl ?_
  intro pp ee ss mm bl me co hsz hC0 hP hD hS ls hl
  subst hsz
  obtain ⟨hx, hb, hr, hml, hown, hts, hK, hlk⟩ := hC0
  have hA : ∀ q, ss.heap.size ≤ q → va_A (wModel k g s_0 im fr hd_0 nw hh qs qz it th hm ow lo) ss.heap.size q := fun q h => Or.inr h
  have iX8 : ∀ w ∈ wsX80, w ∈ wsX8_removed := fun _ h => List.mem_cons_of_mem _ (List.mem_append_right _ h)
  have w1 := hts (.fieldLink RX8 7 "DeadListPoolModel" "s" "[I") (List.mem_of_getElem? (i := 1) rfl)
  have B2 : ∀ (n2 : Nat) (x1 : Int32) (x2 : Int32) (s : Nat → Int32) (hd : Nat → Int32), xX8_removed_2 n2 x1 x2 s hd = some (r, s', hd') → ∀ (H : Heap) (locs : List Loc), va_P D vwCl (wModel k g s im fr hd nw hh qs qz it th hm ow lo) H → va_D (va_A (wModel k g s_0 im fr hd_0 nw hh qs qz it th hm ow lo) ss.heap.size) (wModel k g s im fr hd nw hh qs qz it th hm ow lo) → va_S (va_A (wModel k g s_0 im fr hd_0 nw hh qs qz it th hm ow lo) ss.heap.size) ss.heap H locs → ∀ ls : Array Slot, lv_has ls 3 [(0, .ref (g 0)), (1, .int x1), (2, .int x2)] → W pp l ee ({ frames := 6, cells := 0, slots := 0, locals := 130 } : Room) ss mm ([.ref (g 0), .int p1] : List Value).toArray bl me co H locs 0 0 (MQ bl (cQi D k (wModel k g s_0 im fr hd_0 nw hh qs qz it th hm ow lo) ss.heap.size r (wModel k g s' im fr hd' nw hh qs qz it th hm ow lo)) ([.ref (g 0), .int p1] : List Value).toArray ss 0 0 (va_A (wModel k g s_0 im fr hd_0 nw hh qs qz it th hm ow lo) ss.heap.size)) (F0 mm 2 ls []) := by
    intro n2
    induction n2 with
    | zero =>
      intro x1 x2 s hd he
      exact absurd (show (none : Option (Int32 × (Nat → Int32) × (Nat → Int32))) = some (r, s', hd') from he) (by simp)
    | succ n2 ih2 =>
      intro x1 x2 s hd he H locs hP hD hS ls hl
      refine lv_iload_n hx hb dX8_removed_2 rfl (lv_at hl 2 rfl) ?_
      refine lv_bipush (v := 20) hx hb dX8_removed_3 (by decide) ?_
      refine lv_icmp_ge (tgt := 53) hx hb dX8_removed_5 (by decide) (fun c1 => ?_) (fun c1 => ?_)
      · have he := ifp he c1
        refine lv_aload_n hx hb dX8_removed_53 rfl (lv_at hl 0 rfl) ?_
        refine va_get (D := D) (ci := 8) (v := .ref (g 1)) (C := RX8) (T := TX8) (N := 13) hx hb hts iX8 hown hK hP 0 rfl rfl 1 (by decide) w1 (fun _ h9 => h9) rfl dX8_removed_54 ?_
        refine lv_iconst (v := 2) hx hb dX8_removed_57 (by decide) ?_
        refine lv_iload_n hx hb dX8_removed_58 rfl (lv_at hl 1 rfl) ?_
        refine lv_iadd hx hb dX8_removed_59 ?_
        refine lv_iconst (v := (-1)) hx hb dX8_removed_60 (by decide) ?_
        obtain ⟨h2, he⟩ := grd_i he
        obtain ⟨s3, e4, he⟩ := lt_i he
        refine va_iast hx hb hK hP hD hS 1 0 rfl rfl (ix_in h2) dX8_removed_61 (fun H locs hP hD hS => ?_)
        have hP : va_P D vwCl (wModel k g s3 im fr hd nw hh qs qz it th hm ow lo) H := by rw [e4]; exact hP
        have hD : va_D _ (wModel k g s3 im fr hd nw hh qs qz it th hm ow lo) := va_D_adr (by rw [e4]; rfl) hD
        refine lv_aload_n hx hb dX8_removed_62 rfl (lv_at hl 0 rfl) ?_
        obtain ⟨v5, s6, hd7, h8, he⟩ := bn3_i he
        refine cVi (wf := (wModel k g s6 im fr hd7 nw hh qs qz it th hm ow lo)) (As := []) (rest := []) ⟨hx, hb, hml, hown, hts⟩ hK hA hP hD hS (mX8_frees l D k g (s_0 := s3) (im := im) (fr := fr) (hd_0 := hd) (nw := nw) (hh := hh) (qs := qs) (qz := qz) (it := it) (th := th) (hm := hm) (ow := ow) (lo := lo) h8) (cwV 0 hts gX8_removed_X8_frees rfl rfl rfl kX8_frees ⟨Nat.le_of_ble_eq_true rfl, Nat.le_of_ble_eq_true rfl⟩) [0, 1, 2, 3, 4, 5, 6, 7, 8, 9] rfl rfl rfl [false, false, false, false, false, false, false, false, false, false] trivial 10 rfl (by decide +kernel) rfl 0 rfl rfl rfl hl.1 rfl (Nat.le_of_ble_eq_true rfl) ⟨Nat.le_refl 0, Nat.le_refl 0⟩ dX8_removed_63 (fun H locs hP hD hS => ?_)
        obtain ⟨rfl, rfl, rfl⟩ := some3 he
        exact cRi hx hb hr hlk hK rfl hP hD hS dX8_removed_66
      · have he := ifn he c1
        refine lv_aload_n hx hb dX8_removed_8 rfl (lv_at hl 0 rfl) ?_
        refine lv_iload_n hx hb dX8_removed_9 rfl (lv_at hl 2 rfl) ?_
        obtain ⟨v9, h10, he⟩ := bn1_i he
        refine cVir (As := [.int x2]) (rest := []) ⟨hx, hb, hml, hown, hts⟩ hK hA hP hD hS (mX8_hasSlots l D k g (s := s) (im := im) (fr := fr) (hd := hd) (nw := nw) (hh := hh) (qs := qs) (qz := qz) (it := it) (th := th) (hm := hm) (ow := ow) (lo := lo) h10) (cwV 1 hts gX8_removed_X8_hasSlots rfl rfl rfl kX8_hasSlots ⟨Nat.le_of_ble_eq_true rfl, Nat.le_of_ble_eq_true rfl⟩) [0, 1, 2, 3, 4, 5, 6, 7, 8, 9] rfl rfl 0 rfl rfl rfl hl.1 rfl (Nat.le_of_ble_eq_true rfl) ⟨Nat.le_refl 0, Nat.le_refl 0⟩ dX8_removed_10 (fun H locs hP hD hS => ?_)
        refine lv_if_eq (tgt := 47) hx hb dX8_removed_13 (by decide) (fun c11 => ?_) (fun c11 => ?_)
        · have he := ifp he c11
          refine lv_iinc (v := (x2 + 1)) (lv' := [(2, .int (x2 + 1)), (0, .ref (g 0)), (1, .int x1)]) hx hb dX8_removed_47 hl (k := 2) rfl rfl (by decide) rfl (fun ls hl => ?_)
          refine lv_goto (tgt := 2) hx hb dX8_removed_50 (by decide) ?_
          exact ih2 x1 (x2 + 1) s hd he H locs hP hD hS ls (lv_sub hl [1, 2, 0] rfl)
        · have he := ifn he c11
          refine lv_aload_n hx hb dX8_removed_16 rfl (lv_at hl 0 rfl) ?_
          refine va_get (D := D) (ci := 8) (v := .ref (g 1)) (C := RX8) (T := TX8) (N := 13) hx hb hts iX8 hown hK hP 0 rfl rfl 1 (by decide) w1 (fun _ h9 => h9) rfl dX8_removed_17 ?_
          refine lv_bipush (v := 42) hx hb dX8_removed_20 (by decide) ?_
          refine lv_iload_n hx hb dX8_removed_22 rfl (lv_at hl 2 rfl) ?_
          refine lv_iadd hx hb dX8_removed_23 ?_
          obtain ⟨h12, he⟩ := grd_i he
          refine va_iald hx hb hK hP 1 0 rfl rfl (ix_in h12) dX8_removed_24 ?_
          refine lv_iload_n hx hb dX8_removed_25 rfl (lv_at hl 1 rfl) ?_
          refine lv_icmp_ne (tgt := 47) hx hb dX8_removed_26 (by decide) (fun c13 => ?_) (fun c13 => ?_)
          · have he := ifn he c13
            refine lv_iinc (v := (x2 + 1)) (lv' := [(2, .int (x2 + 1)), (0, .ref (g 0)), (1, .int x1)]) hx hb dX8_removed_47 hl (k := 2) rfl rfl (by decide) rfl (fun ls hl => ?_)
            refine lv_goto (tgt := 2) hx hb dX8_removed_50 (by decide) ?_
            exact ih2 x1 (x2 + 1) s hd he H locs hP hD hS ls (lv_sub hl [1, 2, 0] rfl)
          · have he := ifp he c13
            refine lv_aload_n hx hb dX8_removed_29 rfl (lv_at hl 0 rfl) ?_
            refine va_get (D := D) (ci := 8) (v := .ref (g 1)) (C := RX8) (T := TX8) (N := 13) hx hb hts iX8 hown hK hP 0 rfl rfl 1 (by decide) w1 (fun _ h9 => h9) rfl dX8_removed_30 ?_
            refine lv_bipush (v := 42) hx hb dX8_removed_33 (by decide) ?_
            refine lv_iload_n hx hb dX8_removed_35 rfl (lv_at hl 2 rfl) ?_
            refine lv_iadd hx hb dX8_removed_36 ?_
            refine lv_aload_n hx hb dX8_removed_37 rfl (lv_at hl 0 rfl) ?_
            refine va_get (D := D) (ci := 8) (v := .ref (g 1)) (C := RX8) (T := TX8) (N := 13) hx hb hts iX8 hown hK hP 0 rfl rfl 1 (by decide) w1 (fun _ h9 => h9) rfl dX8_removed_38 ?_
            refine lv_bipush (v := 42) hx hb dX8_removed_41 (by decide) ?_
            refine lv_iload_n hx hb dX8_removed_43 rfl (lv_at hl 1 rfl) ?_
            refine lv_iadd hx hb dX8_removed_44 ?_
            obtain ⟨h14, he⟩ := grd_i he
            refine va_iald hx hb hK hP 1 0 rfl rfl (ix_in h14) dX8_removed_45 ?_
            obtain ⟨h15, he⟩ := grd_i he
            obtain ⟨s16, e17, he⟩ := lt_i he
            refine va_iast hx hb hK hP hD hS 1 0 rfl rfl (ix_in h15) dX8_removed_46 (fun H locs hP hD hS => ?_)
            have hP : va_P D vwCl (wModel k g s16 im fr hd nw hh qs qz it th hm ow lo) H := by rw [e17]; exact hP
            have hD : va_D _ (wModel k g s16 im fr hd nw hh qs qz it th hm ow lo) := va_D_adr (by rw [e17]; rfl) hD
            refine lv_iinc (v := (x2 + 1)) (lv' := [(2, .int (x2 + 1)), (0, .ref (g 0)), (1, .int x1)]) hx hb dX8_removed_47 hl (k := 2) rfl rfl (by decide) rfl (fun ls hl => ?_)
            refine lv_goto (tgt := 2) hx hb dX8_removed_50 (by decide) ?_
            exact ih2 x1 (x2 + 1) s16 hd he H locs hP hD hS ls (lv_sub hl [1, 2, 0] rfl)
  have hS0 := hS
  have key : ∀ (H : Heap) (locs : List Loc), H = ss.heap → locs = [] → va_P D vwCl (wModel k g s_0 im fr hd_0 nw hh qs qz it th hm ow lo) H → va_S (va_A (wModel k g s_0 im fr hd_0 nw hh qs qz it th hm ow lo) ss.heap.size) ss.heap H locs → W pp l ee ({ frames := 6, cells := 0, slots := 0, locals := 130 } : Room) ss mm ([.ref (g 0), .int p1] : List Value).toArray bl me co H locs 0 0 (MQ bl (cQi D k (wModel k g s_0 im fr hd_0 nw hh qs qz it th hm ow lo) ss.heap.size r (wModel k g s' im fr hd' nw hh qs qz it th hm ow lo)) ([.ref (g 0), .int p1] : List Value).toArray ss 0 0 (va_A (wModel k g s_0 im fr hd_0 nw hh qs qz it th hm ow lo) ss.heap.size)) (F0 mm 0 ls []) := by
    intro H locs _ _ hP hS
    refine lv_iconst (v := 0) hx hb dX8_removed_0 (by decide) ?_
    refine lv_istore_n (lv' := [(2, .int 0), (0, .ref (g 0)), (1, .int p1)]) hx hb dX8_removed_1 rfl hl (by decide) rfl (fun ls hl => ?_)
    exact B2 600 p1 0 s_0 hd_0 he H locs hP hD hS ls (lv_sub hl [1, 2, 0] rfl)
  exact key ss.heap [] rfl rfl hP hS
theorem kX8_remove : yX8_remove.cls = RX8 ∧ yX8_remove.cls ≠ "java/lang/invoke/MethodHandle" ∧ yX8_remove.cls ≠ "java/lang/invoke/VarHandle" ∧ (parseMethodDescriptor yX8_remove.desc).map (fun d => d.parameters.length) = some 1 := by decide +kernel
set_option maxRecDepth 100000 in
set_option maxHeartbeats 4000000 in
theorem mX8_remove (l : Launch) (D : va_G) (k : Nat → ClassId) (g : Nat → Nat) {s_0 : Nat → Int32} {im : Nat → Int32} {fr : Nat → Int32} {hd_0 : Nat → Int32} {nw : Nat → Int32} {hh : Nat → Int32} {qs : Nat → Int32} {qz : Nat → Int32} {it : Nat → Int64} {th : Int32} {hm : Int32} {ow : Int32} {lo : Int32} {p1 : Int32} {r : Int32} {s' : Nat → Int32} {hd' : Nat → Int32} (he : xX8_remove s_0 hd_0 p1 = some (r, s', hd')) : CtI l D k yX8_remove wsX8_remove ({ frames := 7, cells := 0, slots := 0, locals := 152 } : Room) [.ref (g 0), .int p1] (wModel k g s_0 im fr hd_0 nw hh qs qz it th hm ow lo) r (wModel k g s' im fr hd' nw hh qs qz it th hm ow lo) := by
  intro sz9
  refine cSt (lv := [(0, .ref (g 0)), (1, .int p1)]) (own := RX8) (cc := cX8_remove) (nL := 3) (ret := (some .int)) (by decide +kernel) rfl rfl (Nat.le_of_ble_eq_true rfl) rfl ?_
  intro pp ee ss mm bl me co hsz hC0 hP hD hS ls hl
  subst hsz
  obtain ⟨hx, hb, hr, hml, hown, hts, hK, hlk⟩ := hC0
  have hA : ∀ q, ss.heap.size ≤ q → va_A (wModel k g s_0 im fr hd_0 nw hh qs qz it th hm ow lo) ss.heap.size q := fun q h => Or.inr h
  have iX8 : ∀ w ∈ wsX80, w ∈ wsX8_remove := fun _ h => List.mem_cons_of_mem _ (List.mem_append_right _ h)
  have w1 := hts (.fieldLink RX8 7 "DeadListPoolModel" "s" "[I") (List.mem_of_getElem? (i := 1) rfl)
  have B60 : ∀ (x1 : Int32) (s : Nat → Int32) (hd : Nat → Int32), xX8_remove_60 x1 s hd = some (r, s', hd') → ∀ (H : Heap) (locs : List Loc), va_P D vwCl (wModel k g s im fr hd nw hh qs qz it th hm ow lo) H → va_D (va_A (wModel k g s_0 im fr hd_0 nw hh qs qz it th hm ow lo) ss.heap.size) (wModel k g s im fr hd nw hh qs qz it th hm ow lo) → va_S (va_A (wModel k g s_0 im fr hd_0 nw hh qs qz it th hm ow lo) ss.heap.size) ss.heap H locs → ∀ ls : Array Slot, lv_has ls 3 [(0, .ref (g 0)), (1, .int x1)] → W pp l ee ({ frames := 7, cells := 0, slots := 0, locals := 152 } : Room) ss mm ([.ref (g 0), .int p1] : List Value).toArray bl me co H locs 0 0 (MQ bl (cQi D k (wModel k g s_0 im fr hd_0 nw hh qs qz it th hm ow lo) ss.heap.size r (wModel k g s' im fr hd' nw hh qs qz it th hm ow lo)) ([.ref (g 0), .int p1] : List Value).toArray ss 0 0 (va_A (wModel k g s_0 im fr hd_0 nw hh qs qz it th hm ow lo) ss.heap.size)) (F0 mm 60 ls []) := by
    intro x1 s hd he H locs hP hD hS ls hl
    refine lv_aload_n hx hb dX8_remove_60 rfl (lv_at hl 0 rfl) ?_
    refine lv_iload_n hx hb dX8_remove_61 rfl (lv_at hl 1 rfl) ?_
    obtain ⟨v1, s2, hd3, h4, he⟩ := bn3_i he
    refine cVi (wf := (wModel k g s2 im fr hd3 nw hh qs qz it th hm ow lo)) (As := [.int x1]) (rest := []) ⟨hx, hb, hml, hown, hts⟩ hK hA hP hD hS (mX8_removed l D k g (s_0 := s) (im := im) (fr := fr) (hd_0 := hd) (nw := nw) (hh := hh) (qs := qs) (qz := qz) (it := it) (th := th) (hm := hm) (ow := ow) (lo := lo) h4) (cwV 1 hts gX8_remove_X8_removed rfl rfl rfl kX8_removed ⟨Nat.le_of_ble_eq_true rfl, Nat.le_of_ble_eq_true rfl⟩) [0, 1, 2, 3, 4, 5, 6, 7, 8, 9] rfl rfl rfl [false, false, false, false, false, false, false, false, false, false] trivial 10 rfl (by decide +kernel) rfl 0 rfl rfl rfl hl.1 rfl (Nat.le_of_ble_eq_true rfl) ⟨Nat.le_refl 0, Nat.le_refl 0⟩ dX8_remove_62 (fun H locs hP hD hS => ?_)
    obtain ⟨rfl, rfl, rfl⟩ := some3 he
    exact cRi hx hb hr hlk hK rfl hP hD hS dX8_remove_65
  have B41 : ∀ (x1 : Int32) (s : Nat → Int32) (hd : Nat → Int32), xX8_remove_41 x1 s hd = some (r, s', hd') → ∀ (H : Heap) (locs : List Loc), va_P D vwCl (wModel k g s im fr hd nw hh qs qz it th hm ow lo) H → va_D (va_A (wModel k g s_0 im fr hd_0 nw hh qs qz it th hm ow lo) ss.heap.size) (wModel k g s im fr hd nw hh qs qz it th hm ow lo) → va_S (va_A (wModel k g s_0 im fr hd_0 nw hh qs qz it th hm ow lo) ss.heap.size) ss.heap H locs → ∀ ls : Array Slot, lv_has ls 3 [(0, .ref (g 0)), (1, .int x1)] → W pp l ee ({ frames := 7, cells := 0, slots := 0, locals := 152 } : Room) ss mm ([.ref (g 0), .int p1] : List Value).toArray bl me co H locs 0 0 (MQ bl (cQi D k (wModel k g s_0 im fr hd_0 nw hh qs qz it th hm ow lo) ss.heap.size r (wModel k g s' im fr hd' nw hh qs qz it th hm ow lo)) ([.ref (g 0), .int p1] : List Value).toArray ss 0 0 (va_A (wModel k g s_0 im fr hd_0 nw hh qs qz it th hm ow lo) ss.heap.size)) (F0 mm 41 ls []) := by
    intro x1 s hd he H locs hP hD hS ls hl
    refine lv_aload_n hx hb dX8_remove_41 rfl (lv_at hl 0 rfl) ?_
    refine lv_iload_n hx hb dX8_remove_42 rfl (lv_at hl 1 rfl) ?_
    obtain ⟨v5, h6, he⟩ := bn1_i he
    refine cVir (As := [.int x1]) (rest := []) ⟨hx, hb, hml, hown, hts⟩ hK hA hP hD hS (mX8_isFiles l D k g (s := s) (im := im) (fr := fr) (hd := hd) (nw := nw) (hh := hh) (qs := qs) (qz := qz) (it := it) (th := th) (hm := hm) (ow := ow) (lo := lo) h6) (cwV 1 hts gX8_remove_X8_isFiles rfl rfl rfl kX8_isFiles ⟨Nat.le_of_ble_eq_true rfl, Nat.le_of_ble_eq_true rfl⟩) [0, 1, 2, 3, 4, 5, 6, 7, 8, 9] rfl rfl 0 rfl rfl rfl hl.1 rfl (Nat.le_of_ble_eq_true rfl) ⟨Nat.le_refl 0, Nat.le_refl 0⟩ dX8_remove_43 (fun H locs hP hD hS => ?_)
    refine lv_if_eq (tgt := 60) hx hb dX8_remove_46 (by decide) (fun c7 => ?_) (fun c7 => ?_)
    · have he := ifp he c7
      exact B60 x1 s hd he H locs hP hD hS ls (lv_sub hl [0, 1] rfl)
    · have he := ifn he c7
      refine lv_aload_n hx hb dX8_remove_49 rfl (lv_at hl 0 rfl) ?_
      refine lv_iload_n hx hb dX8_remove_50 rfl (lv_at hl 1 rfl) ?_
      obtain ⟨v8, h9, he⟩ := bn1_i he
      refine cVir (As := [.int x1]) (rest := []) ⟨hx, hb, hml, hown, hts⟩ hK hA hP hD hS (mX8_owned l D k g (s := s) (im := im) (fr := fr) (hd := hd) (nw := nw) (hh := hh) (qs := qs) (qz := qz) (it := it) (th := th) (hm := hm) (ow := ow) (lo := lo) h9) (cwV 1 hts gX8_remove_X8_owned rfl rfl rfl kX8_owned ⟨Nat.le_of_ble_eq_true rfl, Nat.le_of_ble_eq_true rfl⟩) [0, 1, 2, 3, 4, 5, 6, 7, 8, 9] rfl rfl 0 rfl rfl rfl hl.1 rfl (Nat.le_of_ble_eq_true rfl) ⟨Nat.le_refl 0, Nat.le_refl 0⟩ dX8_remove_51 (fun H locs hP hD hS => ?_)
      refine lv_if_le (tgt := 60) hx hb dX8_remove_54 (by decide) (fun c10 => ?_) (fun c10 => ?_)
      · have he := ifp he c10
        exact B60 x1 s hd he H locs hP hD hS ls (lv_sub hl [0, 1] rfl)
      · have he := ifn he c10
        refine lv_bipush (v := (-3)) hx hb dX8_remove_57 (by decide) ?_
        obtain ⟨rfl, rfl, rfl⟩ := some3 he
        exact cRi hx hb hr hlk hK rfl hP hD hS dX8_remove_59
  have hS0 := hS
  have key : ∀ (H : Heap) (locs : List Loc), H = ss.heap → locs = [] → va_P D vwCl (wModel k g s_0 im fr hd_0 nw hh qs qz it th hm ow lo) H → va_S (va_A (wModel k g s_0 im fr hd_0 nw hh qs qz it th hm ow lo) ss.heap.size) ss.heap H locs → W pp l ee ({ frames := 7, cells := 0, slots := 0, locals := 152 } : Room) ss mm ([.ref (g 0), .int p1] : List Value).toArray bl me co H locs 0 0 (MQ bl (cQi D k (wModel k g s_0 im fr hd_0 nw hh qs qz it th hm ow lo) ss.heap.size r (wModel k g s' im fr hd' nw hh qs qz it th hm ow lo)) ([.ref (g 0), .int p1] : List Value).toArray ss 0 0 (va_A (wModel k g s_0 im fr hd_0 nw hh qs qz it th hm ow lo) ss.heap.size)) (F0 mm 0 ls []) := by
    intro H locs _ _ hP hS
    refine lv_aload_n hx hb dX8_remove_0 rfl (lv_at hl 0 rfl) ?_
    refine lv_iload_n hx hb dX8_remove_1 rfl (lv_at hl 1 rfl) ?_
    obtain ⟨v1001, h1002, he⟩ := bn1_i he
    refine cVir (As := [.int p1]) (rest := []) ⟨hx, hb, hml, hown, hts⟩ hK hA hP hD hS (mX8_there l D k g (s := s_0) (im := im) (fr := fr) (hd := hd_0) (nw := nw) (hh := hh) (qs := qs) (qz := qz) (it := it) (th := th) (hm := hm) (ow := ow) (lo := lo) h1002) (cwV 1 hts gX8_remove_X8_there rfl rfl rfl kX8_there ⟨Nat.le_of_ble_eq_true rfl, Nat.le_of_ble_eq_true rfl⟩) [0, 1, 2, 3, 4, 5, 6, 7, 8, 9] rfl rfl 0 rfl rfl rfl hl.1 rfl (Nat.le_of_ble_eq_true rfl) ⟨Nat.le_refl 0, Nat.le_refl 0⟩ dX8_remove_2 (fun H locs hP hD hS => ?_)
    refine lv_istore_n (lv' := [(2, .int v1001), (0, .ref (g 0)), (1, .int p1)]) hx hb dX8_remove_5 rfl hl (by decide) rfl (fun ls hl => ?_)
    refine lv_iload_n hx hb dX8_remove_6 rfl (lv_at hl 0 rfl) ?_
    refine lv_if_eq (tgt := 12) hx hb dX8_remove_7 (by decide) (fun c1003 => ?_) (fun c1003 => ?_)
    · have he := ifp he c1003
      refine lv_aload_n hx hb dX8_remove_12 rfl (lv_at hl 1 rfl) ?_
      refine lv_iload_n hx hb dX8_remove_13 rfl (lv_at hl 2 rfl) ?_
      obtain ⟨v1004, h1005, he⟩ := bn1_i he
      refine cVir (As := [.int p1]) (rest := []) ⟨hx, hb, hml, hown, hts⟩ hK hA hP hD hS (mX8_isSnapshot l D k g (s := s_0) (im := im) (fr := fr) (hd := hd_0) (nw := nw) (hh := hh) (qs := qs) (qz := qz) (it := it) (th := th) (hm := hm) (ow := ow) (lo := lo) h1005) (cwV 1 hts gX8_remove_X8_isSnapshot rfl rfl rfl kX8_isSnapshot ⟨Nat.le_of_ble_eq_true rfl, Nat.le_of_ble_eq_true rfl⟩) [0, 1, 2, 3, 4, 5, 6, 7, 8, 9] rfl rfl 0 rfl rfl rfl hl.1 rfl (Nat.le_of_ble_eq_true rfl) ⟨Nat.le_refl 0, Nat.le_refl 0⟩ dX8_remove_14 (fun H locs hP hD hS => ?_)
      refine lv_if_eq (tgt := 41) hx hb dX8_remove_17 (by decide) (fun c1006 => ?_) (fun c1006 => ?_)
      · have he := ifp he c1006
        exact B41 p1 s_0 hd_0 he H locs hP hD hS ls (lv_sub hl [1, 2] rfl)
      · have he := ifn he c1006
        refine lv_aload_n hx hb dX8_remove_20 rfl (lv_at hl 1 rfl) ?_
        refine va_get (D := D) (ci := 8) (v := .ref (g 1)) (C := RX8) (T := TX8) (N := 13) hx hb hts iX8 hown hK hP 0 rfl rfl 1 (by decide) w1 (fun _ h9 => h9) rfl dX8_remove_21 ?_
        refine lv_bipush (v := 102) hx hb dX8_remove_24 (by decide) ?_
        refine lv_iload_n hx hb dX8_remove_26 rfl (lv_at hl 2 rfl) ?_
        refine lv_iadd hx hb dX8_remove_27 ?_
        obtain ⟨h1007, he⟩ := grd_i he
        refine va_iald hx hb hK hP 1 0 rfl rfl (ix_in h1007) dX8_remove_28 ?_
        refine lv_if_ne (tgt := 57) hx hb dX8_remove_29 (by decide) (fun c1008 => ?_) (fun c1008 => ?_)
        · have he := ifn he c1008
          refine lv_bipush (v := (-3)) hx hb dX8_remove_57 (by decide) ?_
          obtain ⟨rfl, rfl, rfl⟩ := some3 he
          exact cRi hx hb hr hlk hK rfl hP hD hS dX8_remove_59
        · have he := ifp he c1008
          refine lv_aload_n hx hb dX8_remove_32 rfl (lv_at hl 1 rfl) ?_
          refine lv_iload_n hx hb dX8_remove_33 rfl (lv_at hl 2 rfl) ?_
          obtain ⟨v1009, h1010, he⟩ := bn1_i he
          refine cVir (As := [.int p1]) (rest := []) ⟨hx, hb, hml, hown, hts⟩ hK hA hP hD hS (mX8_nexts l D k g (s := s_0) (im := im) (fr := fr) (hd := hd_0) (nw := nw) (hh := hh) (qs := qs) (qz := qz) (it := it) (th := th) (hm := hm) (ow := ow) (lo := lo) h1010) (cwV 1 hts gX8_remove_X8_nexts rfl rfl rfl kX8_nexts ⟨Nat.le_of_ble_eq_true rfl, Nat.le_of_ble_eq_true rfl⟩) [0, 1, 2, 3, 4, 5, 6, 7, 8, 9] rfl rfl 0 rfl rfl rfl hl.1 rfl (Nat.le_of_ble_eq_true rfl) ⟨Nat.le_refl 0, Nat.le_refl 0⟩ dX8_remove_34 (fun H locs hP hD hS => ?_)
          refine lv_iconst (v := 1) hx hb dX8_remove_37 (by decide) ?_
          refine lv_icmp_gt (tgt := 57) hx hb dX8_remove_38 (by decide) (fun c1011 => ?_) (fun c1011 => ?_)
          · have he := ifp he c1011
            refine lv_bipush (v := (-3)) hx hb dX8_remove_57 (by decide) ?_
            obtain ⟨rfl, rfl, rfl⟩ := some3 he
            exact cRi hx hb hr hlk hK rfl hP hD hS dX8_remove_59
          · have he := ifn he c1011
            exact B41 p1 s_0 hd_0 he H locs hP hD hS ls (lv_sub hl [1, 2] rfl)
    · have he := ifn he c1003
      refine lv_iload_n hx hb dX8_remove_10 rfl (lv_at hl 0 rfl) ?_
      obtain ⟨rfl, rfl, rfl⟩ := some3 he
      exact cRi hx hb hr hlk hK rfl hP hD hS dX8_remove_11
  exact key ss.heap [] rfl rfl hP hS
theorem kX8_fork : yX8_fork.cls = RX8 ∧ yX8_fork.cls ≠ "java/lang/invoke/MethodHandle" ∧ yX8_fork.cls ≠ "java/lang/invoke/VarHandle" ∧ (parseMethodDescriptor yX8_fork.desc).map (fun d => d.parameters.length) = some 1 := by decide +kernel
set_option maxRecDepth 100000 in
set_option maxHeartbeats 4000000 in
theorem mX8_fork (l : Launch) (D : va_G) (k : Nat → ClassId) (g : Nat → Nat) {s_0 : Nat → Int32} {im : Nat → Int32} {fr : Nat → Int32} {hd : Nat → Int32} {nw : Nat → Int32} {hh : Nat → Int32} {qs : Nat → Int32} {qz : Nat → Int32} {it : Nat → Int64} {th : Int32} {hm : Int32} {ow : Int32} {lo : Int32} {p1 : Int32} {r : Int32} {s' : Nat → Int32} (he : xX8_fork s_0 p1 = some (r, s')) : CtI l D k yX8_fork wsX8_fork ({ frames := 4, cells := 0, slots := 0, locals := 87 } : Room) [.ref (g 0), .int p1] (wModel k g s_0 im fr hd nw hh qs qz it th hm ow lo) r (wModel k g s' im fr hd nw hh qs qz it th hm ow lo) := by
  intro sz9
  refine cSt (lv := [(0, .ref (g 0)), (1, .int p1)]) (own := RX8) (cc := cX8_fork) (nL := 4) (ret := (some .int)) (by decide +kernel) rfl rfl (Nat.le_of_ble_eq_true rfl) rfl ?_
  intro pp ee ss mm bl me co hsz hC0 hP hD hS ls hl
  subst hsz
  obtain ⟨hx, hb, hr, hml, hown, hts, hK, hlk⟩ := hC0
  have hA : ∀ q, ss.heap.size ≤ q → va_A (wModel k g s_0 im fr hd nw hh qs qz it th hm ow lo) ss.heap.size q := fun q h => Or.inr h
  have iX8 : ∀ w ∈ wsX80, w ∈ wsX8_fork := fun _ h => List.mem_cons_of_mem _ (List.mem_append_right _ h)
  have w1 := hts (.fieldLink RX8 7 "DeadListPoolModel" "s" "[I") (List.mem_of_getElem? (i := 1) rfl)
  have hS0 := hS
  have key : ∀ (H : Heap) (locs : List Loc), H = ss.heap → locs = [] → va_P D vwCl (wModel k g s_0 im fr hd nw hh qs qz it th hm ow lo) H → va_S (va_A (wModel k g s_0 im fr hd nw hh qs qz it th hm ow lo) ss.heap.size) ss.heap H locs → W pp l ee ({ frames := 4, cells := 0, slots := 0, locals := 87 } : Room) ss mm ([.ref (g 0), .int p1] : List Value).toArray bl me co H locs 0 0 (MQ bl (cQi D k (wModel k g s_0 im fr hd nw hh qs qz it th hm ow lo) ss.heap.size r (wModel k g s' im fr hd nw hh qs qz it th hm ow lo)) ([.ref (g 0), .int p1] : List Value).toArray ss 0 0 (va_A (wModel k g s_0 im fr hd nw hh qs qz it th hm ow lo) ss.heap.size)) (F0 mm 0 ls []) := by
    intro H locs _ _ hP hS
    refine lv_aload_n hx hb dX8_fork_0 rfl (lv_at hl 0 rfl) ?_
    refine lv_iload_n hx hb dX8_fork_1 rfl (lv_at hl 1 rfl) ?_
    refine lv_iconst (v := 2) hx hb dX8_fork_2 (by decide) ?_
    obtain ⟨v1001, h1002, he⟩ := bn1_i he
    refine cVir (As := [.int p1, .int 2]) (rest := []) ⟨hx, hb, hml, hown, hts⟩ hK hA hP hD hS (mX8_asked l D k g (s := s_0) (im := im) (fr := fr) (hd := hd) (nw := nw) (hh := hh) (qs := qs) (qz := qz) (it := it) (th := th) (hm := hm) (ow := ow) (lo := lo) h1002) (cwV 2 hts gX8_fork_X8_asked rfl rfl rfl kX8_asked ⟨Nat.le_of_ble_eq_true rfl, Nat.le_of_ble_eq_true rfl⟩) [0, 1, 2, 3, 4, 5, 6, 7, 8, 9] rfl rfl 0 rfl rfl rfl hl.1 rfl (Nat.le_of_ble_eq_true rfl) ⟨Nat.le_refl 0, Nat.le_refl 0⟩ dX8_fork_3 (fun H locs hP hD hS => ?_)
    refine lv_istore_n (lv' := [(2, .int v1001), (0, .ref (g 0)), (1, .int p1)]) hx hb dX8_fork_6 rfl hl (by decide) rfl (fun ls hl => ?_)
    refine lv_iload_n hx hb dX8_fork_7 rfl (lv_at hl 0 rfl) ?_
    refine lv_if_eq (tgt := 13) hx hb dX8_fork_8 (by decide) (fun c1003 => ?_) (fun c1003 => ?_)
    · have he := ifp he c1003
      refine lv_aload_n hx hb dX8_fork_13 rfl (lv_at hl 1 rfl) ?_
      obtain ⟨v1004, h1005, he⟩ := bn1_i he
      refine cVir (As := []) (rest := []) ⟨hx, hb, hml, hown, hts⟩ hK hA hP hD hS (mX8_newThing l D k g (s := s_0) (im := im) (fr := fr) (hd := hd) (nw := nw) (hh := hh) (qs := qs) (qz := qz) (it := it) (th := th) (hm := hm) (ow := ow) (lo := lo) h1005) (cwV 0 hts gX8_fork_X8_newThing rfl rfl rfl kX8_newThing ⟨Nat.le_of_ble_eq_true rfl, Nat.le_of_ble_eq_true rfl⟩) [0, 1, 2, 3, 4, 5, 6, 7, 8, 9] rfl rfl 0 rfl rfl rfl hl.1 rfl (Nat.le_of_ble_eq_true rfl) ⟨Nat.le_refl 0, Nat.le_refl 0⟩ dX8_fork_14 (fun H locs hP hD hS => ?_)
      refine lv_bipush (v := 20) hx hb dX8_fork_17 (by decide) ?_
      refine lv_icmp_ne (tgt := 25) hx hb dX8_fork_19 (by decide) (fun c1006 => ?_) (fun c1006 => ?_)
      · have he := ifn he c1006
        refine lv_aload_n hx hb dX8_fork_25 rfl (lv_at hl 1 rfl) ?_
        refine lv_iconst (v := 0) hx hb dX8_fork_26 (by decide) ?_
        refine lv_aload_n hx hb dX8_fork_27 rfl (lv_at hl 1 rfl) ?_
        refine va_get (D := D) (ci := 8) (v := .ref (g 1)) (C := RX8) (T := TX8) (N := 13) hx hb hts iX8 hown hK hP 0 rfl rfl 1 (by decide) w1 (fun _ h9 => h9) rfl dX8_fork_28 ?_
        refine lv_iconst (v := 0) hx hb dX8_fork_31 (by decide) ?_
        obtain ⟨h1007, he⟩ := grd_i he
        refine va_iald hx hb hK hP 1 0 rfl rfl (ix_in h1007) dX8_fork_32 ?_
        obtain ⟨v1008, s1009, h1010, he⟩ := bn2_i he
        refine cVi (wf := (wModel k g s1009 im fr hd nw hh qs qz it th hm ow lo)) (As := [.int 0, .int (s_0 (Int32.toNatClampNeg 0))]) (rest := []) ⟨hx, hb, hml, hown, hts⟩ hK hA hP hD hS (mX8_comes l D k g (s_0 := s_0) (im := im) (fr := fr) (hd := hd) (nw := nw) (hh := hh) (qs := qs) (qz := qz) (it := it) (th := th) (hm := hm) (ow := ow) (lo := lo) h1010) (cwV 2 hts gX8_fork_X8_comes rfl rfl rfl kX8_comes ⟨Nat.le_of_ble_eq_true rfl, Nat.le_of_ble_eq_true rfl⟩) [0, 1, 2, 3, 4, 5, 6, 7, 8, 9] rfl rfl rfl [false, false, false, false, false, false, false, false, false, false] trivial 10 rfl (by decide +kernel) rfl 0 rfl rfl rfl hl.1 rfl (Nat.le_of_ble_eq_true rfl) ⟨Nat.le_refl 0, Nat.le_refl 0⟩ dX8_fork_33 (fun H locs hP hD hS => ?_)
        refine lv_istore_n (lv' := [(3, .int v1008), (2, .int v1001), (0, .ref (g 0)), (1, .int p1)]) hx hb dX8_fork_36 rfl hl (by decide) rfl (fun ls hl => ?_)
        refine lv_aload_n hx hb dX8_fork_37 rfl (lv_at hl 2 rfl) ?_
        refine lv_iload_n hx hb dX8_fork_38 rfl (lv_at hl 0 rfl) ?_
        refine lv_iload_n hx hb dX8_fork_39 rfl (lv_at hl 3 rfl) ?_
        obtain ⟨s1011, h1012, he⟩ := bn1_i he
        refine cVv (wf := (wModel k g s1011 im fr hd nw hh qs qz it th hm ow lo)) (As := [.int v1008, .int p1]) (rest := []) ⟨hx, hb, hml, hown, hts⟩ hK hA hP hD hS (mX8_takesSlots l D k g (s_0 := s1009) (im := im) (fr := fr) (hd := hd) (nw := nw) (hh := hh) (qs := qs) (qz := qz) (it := it) (th := th) (hm := hm) (ow := ow) (lo := lo) h1012) (cwV 2 hts gX8_fork_X8_takesSlots rfl rfl rfl kX8_takesSlots ⟨Nat.le_of_ble_eq_true rfl, Nat.le_of_ble_eq_true rfl⟩) [0, 1, 2, 3, 4, 5, 6, 7, 8, 9] rfl rfl rfl [false, false, false, false, false, false, false, false, false, false] trivial 10 rfl (by decide +kernel) rfl 0 rfl rfl rfl hl.1 rfl (Nat.le_of_ble_eq_true rfl) ⟨Nat.le_refl 0, Nat.le_refl 0⟩ dX8_fork_40 (fun H locs hP hD hS => ?_)
        refine lv_aload_n hx hb dX8_fork_43 rfl (lv_at hl 2 rfl) ?_
        refine va_get (D := D) (ci := 8) (v := .ref (g 1)) (C := RX8) (T := TX8) (N := 13) hx hb hts iX8 hown hK hP 0 rfl rfl 1 (by decide) w1 (fun _ h9 => h9) rfl dX8_fork_44 ?_
        refine lv_bipush (v := 42) hx hb dX8_fork_47 (by decide) ?_
        refine lv_iload_n hx hb dX8_fork_49 rfl (lv_at hl 0 rfl) ?_
        refine lv_iadd hx hb dX8_fork_50 ?_
        refine lv_iload_n hx hb dX8_fork_51 rfl (lv_at hl 3 rfl) ?_
        obtain ⟨h1013, he⟩ := grd_i he
        obtain ⟨s1014, e1015, he⟩ := lt_i he
        refine va_iast hx hb hK hP hD hS 1 0 rfl rfl (ix_in h1013) dX8_fork_52 (fun H locs hP hD hS => ?_)
        have hP : va_P D vwCl (wModel k g s1014 im fr hd nw hh qs qz it th hm ow lo) H := by rw [e1015]; exact hP
        have hD : va_D _ (wModel k g s1014 im fr hd nw hh qs qz it th hm ow lo) := va_D_adr (by rw [e1015]; rfl) hD
        refine lv_iload_n hx hb dX8_fork_53 rfl (lv_at hl 0 rfl) ?_
        obtain ⟨rfl, rfl⟩ := some2 he
        exact cRi hx hb hr hlk hK rfl hP hD hS dX8_fork_54
      · have he := ifp he c1006
        refine lv_bipush (v := (-4)) hx hb dX8_fork_22 (by decide) ?_
        obtain ⟨rfl, rfl⟩ := some2 he
        exact cRi hx hb hr hlk hK rfl hP hD hS dX8_fork_24
    · have he := ifn he c1003
      refine lv_iload_n hx hb dX8_fork_11 rfl (lv_at hl 0 rfl) ?_
      obtain ⟨rfl, rfl⟩ := some2 he
      exact cRi hx hb hr hlk hK rfl hP hD hS dX8_fork_12
  exact key ss.heap [] rfl rfl hP hS
theorem kX8_originOf : yX8_originOf.cls = RX8 ∧ yX8_originOf.cls ≠ "java/lang/invoke/MethodHandle" ∧ yX8_originOf.cls ≠ "java/lang/invoke/VarHandle" ∧ (parseMethodDescriptor yX8_originOf.desc).map (fun d => d.parameters.length) = some 1 := by decide +kernel
set_option maxRecDepth 100000 in
set_option maxHeartbeats 4000000 in
theorem mX8_originOf (l : Launch) (D : va_G) (k : Nat → ClassId) (g : Nat → Nat) {s : Nat → Int32} {im : Nat → Int32} {fr : Nat → Int32} {hd : Nat → Int32} {nw : Nat → Int32} {hh : Nat → Int32} {qs : Nat → Int32} {qz : Nat → Int32} {it : Nat → Int64} {th : Int32} {hm : Int32} {ow : Int32} {lo : Int32} {p1 : Int32} {r : Int32}  (he : xX8_originOf s p1 = some r) : CtI l D k yX8_originOf wsX8_originOf ({ frames := 0, cells := 0, slots := 0, locals := 0 } : Room) [.ref (g 0), .int p1] (wModel k g s im fr hd nw hh qs qz it th hm ow lo) r (wModel k g s im fr hd nw hh qs qz it th hm ow lo) := by
  intro sz9
  refine cSt (lv := [(0, .ref (g 0)), (1, .int p1)]) (own := RX8) (cc := cX8_originOf) (nL := 3) (ret := (some .int)) (by decide +kernel) rfl rfl (Nat.le_of_ble_eq_true rfl) rfl ?_
  intro pp ee ss mm bl me co hsz hC0 hP hD hS ls hl
  subst hsz
  obtain ⟨hx, hb, hr, hml, hown, hts, hK, hlk⟩ := hC0
  have hA : ∀ q, ss.heap.size ≤ q → va_A (wModel k g s im fr hd nw hh qs qz it th hm ow lo) ss.heap.size q := fun q h => Or.inr h
  have iX8 : ∀ w ∈ wsX80, w ∈ wsX8_originOf := fun _ h => List.mem_cons_of_mem _ (List.mem_append_right _ h)
  have w1 := hts (.fieldLink RX8 7 "DeadListPoolModel" "s" "[I") (List.mem_of_getElem? (i := 1) rfl)
  have B10 : ∀ (n10 : Nat) (x1 : Int32) (x2 : Int32), xX8_originOf_10 s n10 x1 x2 = some r → ∀ (H : Heap) (locs : List Loc), va_P D vwCl (wModel k g s im fr hd nw hh qs qz it th hm ow lo) H → va_D (va_A (wModel k g s im fr hd nw hh qs qz it th hm ow lo) ss.heap.size) (wModel k g s im fr hd nw hh qs qz it th hm ow lo) → va_S (va_A (wModel k g s im fr hd nw hh qs qz it th hm ow lo) ss.heap.size) ss.heap H locs → ∀ ls : Array Slot, lv_has ls 3 [(0, .ref (g 0)), (1, .int x1), (2, .int x2)] → W pp l ee ({ frames := 0, cells := 0, slots := 0, locals := 0 } : Room) ss mm ([.ref (g 0), .int p1] : List Value).toArray bl me co H locs 0 0 (MQ bl (cQi D k (wModel k g s im fr hd nw hh qs qz it th hm ow lo) ss.heap.size r (wModel k g s im fr hd nw hh qs qz it th hm ow lo)) ([.ref (g 0), .int p1] : List Value).toArray ss 0 0 (va_A (wModel k g s im fr hd nw hh qs qz it th hm ow lo) ss.heap.size)) (F0 mm 10 ls []) := by
    intro n10
    induction n10 with
    | zero =>
      intro x1 x2 he
      exact absurd (show (none : Option (Int32)) = some r from he) (by simp)
    | succ n10 ih10 =>
      intro x1 x2 he H locs hP hD hS ls hl
      refine lv_iload_n hx hb dX8_originOf_10 rfl (lv_at hl 2 rfl) ?_
      refine lv_iconst (v := (-1)) hx hb dX8_originOf_11 (by decide) ?_
      refine lv_icmp_eq (tgt := 41) hx hb dX8_originOf_12 (by decide) (fun c1 => ?_) (fun c1 => ?_)
      · have he := ifp he c1
        refine lv_iload_n hx hb dX8_originOf_41 rfl (lv_at hl 2 rfl) ?_
        obtain rfl := some1 he
        exact cRi hx hb hr hlk hK rfl hP hD hS dX8_originOf_42
      · have he := ifn he c1
        refine lv_aload_n hx hb dX8_originOf_15 rfl (lv_at hl 0 rfl) ?_
        refine va_get (D := D) (ci := 8) (v := .ref (g 1)) (C := RX8) (T := TX8) (N := 13) hx hb hts iX8 hown hK hP 0 rfl rfl 1 (by decide) w1 (fun _ h9 => h9) rfl dX8_originOf_16 ?_
        refine lv_bipush (v := 62) hx hb dX8_originOf_19 (by decide) ?_
        refine lv_iload_n hx hb dX8_originOf_21 rfl (lv_at hl 2 rfl) ?_
        refine lv_iadd hx hb dX8_originOf_22 ?_
        obtain ⟨h2, he⟩ := grd_i he
        refine va_iald hx hb hK hP 1 0 rfl rfl (ix_in h2) dX8_originOf_23 ?_
        refine lv_iload_n hx hb dX8_originOf_24 rfl (lv_at hl 1 rfl) ?_
        refine lv_icmp_ne (tgt := 41) hx hb dX8_originOf_25 (by decide) (fun c3 => ?_) (fun c3 => ?_)
        · have he := ifn he c3
          refine lv_iload_n hx hb dX8_originOf_41 rfl (lv_at hl 2 rfl) ?_
          obtain rfl := some1 he
          exact cRi hx hb hr hlk hK rfl hP hD hS dX8_originOf_42
        · have he := ifp he c3
          refine lv_aload_n hx hb dX8_originOf_28 rfl (lv_at hl 0 rfl) ?_
          refine va_get (D := D) (ci := 8) (v := .ref (g 1)) (C := RX8) (T := TX8) (N := 13) hx hb hts iX8 hown hK hP 0 rfl rfl 1 (by decide) w1 (fun _ h9 => h9) rfl dX8_originOf_29 ?_
          refine lv_bipush (v := 42) hx hb dX8_originOf_32 (by decide) ?_
          refine lv_iload_n hx hb dX8_originOf_34 rfl (lv_at hl 2 rfl) ?_
          refine lv_iadd hx hb dX8_originOf_35 ?_
          obtain ⟨h4, he⟩ := grd_i he
          refine va_iald hx hb hK hP 1 0 rfl rfl (ix_in h4) dX8_originOf_36 ?_
          refine lv_istore_n (lv' := [(2, .int (s (Int32.toNatClampNeg (42 + x2)))), (0, .ref (g 0)), (1, .int x1)]) hx hb dX8_originOf_37 rfl hl (by decide) rfl (fun ls hl => ?_)
          refine lv_goto (tgt := 10) hx hb dX8_originOf_38 (by decide) ?_
          exact ih10 x1 (s (Int32.toNatClampNeg (42 + x2))) he H locs hP hD hS ls (lv_sub hl [1, 2, 0] rfl)
  have hS0 := hS
  have key : ∀ (H : Heap) (locs : List Loc), H = ss.heap → locs = [] → va_P D vwCl (wModel k g s im fr hd nw hh qs qz it th hm ow lo) H → va_S (va_A (wModel k g s im fr hd nw hh qs qz it th hm ow lo) ss.heap.size) ss.heap H locs → W pp l ee ({ frames := 0, cells := 0, slots := 0, locals := 0 } : Room) ss mm ([.ref (g 0), .int p1] : List Value).toArray bl me co H locs 0 0 (MQ bl (cQi D k (wModel k g s im fr hd nw hh qs qz it th hm ow lo) ss.heap.size r (wModel k g s im fr hd nw hh qs qz it th hm ow lo)) ([.ref (g 0), .int p1] : List Value).toArray ss 0 0 (va_A (wModel k g s im fr hd nw hh qs qz it th hm ow lo) ss.heap.size)) (F0 mm 0 ls []) := by
    intro H locs _ _ hP hS
    refine lv_aload_n hx hb dX8_originOf_0 rfl (lv_at hl 0 rfl) ?_
    refine va_get (D := D) (ci := 8) (v := .ref (g 1)) (C := RX8) (T := TX8) (N := 13) hx hb hts iX8 hown hK hP 0 rfl rfl 1 (by decide) w1 (fun _ h9 => h9) rfl dX8_originOf_1 ?_
    refine lv_bipush (v := 42) hx hb dX8_originOf_4 (by decide) ?_
    refine lv_iload_n hx hb dX8_originOf_6 rfl (lv_at hl 1 rfl) ?_
    refine lv_iadd hx hb dX8_originOf_7 ?_
    obtain ⟨h1001, he⟩ := grd_i he
    refine va_iald hx hb hK hP 1 0 rfl rfl (ix_in h1001) dX8_originOf_8 ?_
    refine lv_istore_n (lv' := [(2, .int (s (Int32.toNatClampNeg (42 + p1)))), (0, .ref (g 0)), (1, .int p1)]) hx hb dX8_originOf_9 rfl hl (by decide) rfl (fun ls hl => ?_)
    exact B10 600 p1 (s (Int32.toNatClampNeg (42 + p1))) he H locs hP hD hS ls (lv_sub hl [1, 2, 0] rfl)
  exact key ss.heap [] rfl rfl hP hS
theorem kX8_promote : yX8_promote.cls = RX8 ∧ yX8_promote.cls ≠ "java/lang/invoke/MethodHandle" ∧ yX8_promote.cls ≠ "java/lang/invoke/VarHandle" ∧ (parseMethodDescriptor yX8_promote.desc).map (fun d => d.parameters.length) = some 1 := by decide +kernel
set_option maxRecDepth 100000 in
set_option maxHeartbeats 4000000 in
theorem mX8_promote (l : Launch) (D : va_G) (k : Nat → ClassId) (g : Nat → Nat) {s_0 : Nat → Int32} {im : Nat → Int32} {fr : Nat → Int32} {hd : Nat → Int32} {nw : Nat → Int32} {hh : Nat → Int32} {qs : Nat → Int32} {qz : Nat → Int32} {it : Nat → Int64} {th : Int32} {hm : Int32} {ow : Int32} {lo : Int32} {p1 : Int32} {r : Int32} {s' : Nat → Int32} (he : xX8_promote s_0 p1 = some (r, s')) : CtI l D k yX8_promote wsX8_promote ({ frames := 4, cells := 0, slots := 0, locals := 87 } : Room) [.ref (g 0), .int p1] (wModel k g s_0 im fr hd nw hh qs qz it th hm ow lo) r (wModel k g s' im fr hd nw hh qs qz it th hm ow lo) := by
  intro sz9
  refine cSt (lv := [(0, .ref (g 0)), (1, .int p1)]) (own := RX8) (cc := cX8_promote) (nL := 7) (ret := (some .int)) (by decide +kernel) rfl rfl (Nat.le_of_ble_eq_true rfl) rfl ?_
  intro pp ee ss mm bl me co hsz hC0 hP hD hS ls hl
  subst hsz
  obtain ⟨hx, hb, hr, hml, hown, hts, hK, hlk⟩ := hC0
  have hA : ∀ q, ss.heap.size ≤ q → va_A (wModel k g s_0 im fr hd nw hh qs qz it th hm ow lo) ss.heap.size q := fun q h => Or.inr h
  have iX8 : ∀ w ∈ wsX80, w ∈ wsX8_promote := fun _ h => List.mem_cons_of_mem _ (List.mem_append_right _ h)
  have w1 := hts (.fieldLink RX8 7 "DeadListPoolModel" "s" "[I") (List.mem_of_getElem? (i := 1) rfl)
  have B52 : ∀ (n52 : Nat) (x1 : Int32) (x4 : Int32) (x5 : Int32) (x6 : Int32) (s : Nat → Int32), xX8_promote_52 n52 x1 x4 x5 x6 s = some (r, s') → ∀ (H : Heap) (locs : List Loc), va_P D vwCl (wModel k g s im fr hd nw hh qs qz it th hm ow lo) H → va_D (va_A (wModel k g s_0 im fr hd nw hh qs qz it th hm ow lo) ss.heap.size) (wModel k g s im fr hd nw hh qs qz it th hm ow lo) → va_S (va_A (wModel k g s_0 im fr hd nw hh qs qz it th hm ow lo) ss.heap.size) ss.heap H locs → ∀ ls : Array Slot, lv_has ls 7 [(0, .ref (g 0)), (1, .int x1), (4, .int x4), (5, .int x5), (6, .int x6)] → W pp l ee ({ frames := 4, cells := 0, slots := 0, locals := 87 } : Room) ss mm ([.ref (g 0), .int p1] : List Value).toArray bl me co H locs 0 0 (MQ bl (cQi D k (wModel k g s_0 im fr hd nw hh qs qz it th hm ow lo) ss.heap.size r (wModel k g s' im fr hd nw hh qs qz it th hm ow lo)) ([.ref (g 0), .int p1] : List Value).toArray ss 0 0 (va_A (wModel k g s_0 im fr hd nw hh qs qz it th hm ow lo) ss.heap.size)) (F0 mm 52 ls []) := by
    intro n52
    induction n52 with
    | zero =>
      intro x1 x4 x5 x6 s he
      exact absurd (show (none : Option (Int32 × (Nat → Int32))) = some (r, s') from he) (by simp)
    | succ n52 ih52 =>
      intro x1 x4 x5 x6 s he H locs hP hD hS ls hl
      refine lv_iload hx hb dX8_promote_52 (lv_at hl 4 rfl) ?_
      refine lv_iconst (v := (-1)) hx hb dX8_promote_54 (by decide) ?_
      refine lv_icmp_eq (tgt := 102) hx hb dX8_promote_55 (by decide) (fun c1 => ?_) (fun c1 => ?_)
      · have he := ifp he c1
        refine lv_iload hx hb dX8_promote_102 (lv_at hl 3 rfl) ?_
        obtain ⟨rfl, rfl⟩ := some2 he
        exact cRi hx hb hr hlk hK rfl hP hD hS dX8_promote_104
      · have he := ifn he c1
        refine lv_aload_n hx hb dX8_promote_58 rfl (lv_at hl 0 rfl) ?_
        refine va_get (D := D) (ci := 8) (v := .ref (g 1)) (C := RX8) (T := TX8) (N := 13) hx hb hts iX8 hown hK hP 0 rfl rfl 1 (by decide) w1 (fun _ h9 => h9) rfl dX8_promote_59 ?_
        refine lv_bipush (v := 62) hx hb dX8_promote_62 (by decide) ?_
        refine lv_iload hx hb dX8_promote_64 (lv_at hl 4 rfl) ?_
        refine lv_iadd hx hb dX8_promote_66 ?_
        obtain ⟨h2, he⟩ := grd_i he
        refine va_iald hx hb hK hP 1 0 rfl rfl (ix_in h2) dX8_promote_67 ?_
        refine lv_iload hx hb dX8_promote_68 (lv_at hl 2 rfl) ?_
        refine lv_icmp_ne (tgt := 87) hx hb dX8_promote_70 (by decide) (fun c3 => ?_) (fun c3 => ?_)
        · have he := ifn he c3
          refine lv_aload_n hx hb dX8_promote_87 rfl (lv_at hl 0 rfl) ?_
          refine va_get (D := D) (ci := 8) (v := .ref (g 1)) (C := RX8) (T := TX8) (N := 13) hx hb hts iX8 hown hK hP 0 rfl rfl 1 (by decide) w1 (fun _ h9 => h9) rfl dX8_promote_88 ?_
          refine lv_bipush (v := 42) hx hb dX8_promote_91 (by decide) ?_
          refine lv_iload hx hb dX8_promote_93 (lv_at hl 4 rfl) ?_
          refine lv_iadd hx hb dX8_promote_95 ?_
          obtain ⟨h4, he⟩ := grd_i he
          refine va_iald hx hb hK hP 1 0 rfl rfl (ix_in h4) dX8_promote_96 ?_
          refine lv_istore (lv' := [(6, .int (s (Int32.toNatClampNeg (42 + x6)))), (0, .ref (g 0)), (1, .int x1), (4, .int x4), (5, .int x5)]) hx hb dX8_promote_97 hl (by decide) rfl (fun ls hl => ?_)
          refine lv_goto (tgt := 52) hx hb dX8_promote_99 (by decide) ?_
          exact ih52 x1 x4 x5 (s (Int32.toNatClampNeg (42 + x6))) s he H locs hP hD hS ls (lv_sub hl [1, 2, 3, 4, 0] rfl)
        · have he := ifp he c3
          refine lv_aload_n hx hb dX8_promote_73 rfl (lv_at hl 0 rfl) ?_
          refine va_get (D := D) (ci := 8) (v := .ref (g 1)) (C := RX8) (T := TX8) (N := 13) hx hb hts iX8 hown hK hP 0 rfl rfl 1 (by decide) w1 (fun _ h9 => h9) rfl dX8_promote_74 ?_
          refine lv_bipush (v := 62) hx hb dX8_promote_77 (by decide) ?_
          refine lv_iload hx hb dX8_promote_79 (lv_at hl 4 rfl) ?_
          refine lv_iadd hx hb dX8_promote_81 ?_
          refine lv_iload_n hx hb dX8_promote_82 rfl (lv_at hl 1 rfl) ?_
          obtain ⟨h5, he⟩ := grd_i he
          obtain ⟨s6, e7, he⟩ := lt_i he
          refine va_iast hx hb hK hP hD hS 1 0 rfl rfl (ix_in h5) dX8_promote_83 (fun H locs hP hD hS => ?_)
          have hP : va_P D vwCl (wModel k g s6 im fr hd nw hh qs qz it th hm ow lo) H := by rw [e7]; exact hP
          have hD : va_D _ (wModel k g s6 im fr hd nw hh qs qz it th hm ow lo) := va_D_adr (by rw [e7]; rfl) hD
          refine lv_iinc (v := (x5 + 1)) (lv' := [(5, .int (x5 + 1)), (0, .ref (g 0)), (1, .int x1), (4, .int x4), (6, .int x6)]) hx hb dX8_promote_84 hl (k := 3) rfl rfl (by decide) rfl (fun ls hl => ?_)
          refine lv_aload_n hx hb dX8_promote_87 rfl (lv_at hl 1 rfl) ?_
          refine va_get (D := D) (ci := 8) (v := .ref (g 1)) (C := RX8) (T := TX8) (N := 13) hx hb hts iX8 hown hK hP 0 rfl rfl 1 (by decide) w1 (fun _ h9 => h9) rfl dX8_promote_88 ?_
          refine lv_bipush (v := 42) hx hb dX8_promote_91 (by decide) ?_
          refine lv_iload hx hb dX8_promote_93 (lv_at hl 4 rfl) ?_
          refine lv_iadd hx hb dX8_promote_95 ?_
          obtain ⟨h8, he⟩ := grd_i he
          refine va_iald hx hb hK hP 1 0 rfl rfl (ix_in h8) dX8_promote_96 ?_
          refine lv_istore (lv' := [(6, .int (s6 (Int32.toNatClampNeg (42 + x6)))), (5, .int (x5 + 1)), (0, .ref (g 0)), (1, .int x1), (4, .int x4)]) hx hb dX8_promote_97 hl (by decide) rfl (fun ls hl => ?_)
          refine lv_goto (tgt := 52) hx hb dX8_promote_99 (by decide) ?_
          exact ih52 x1 x4 (x5 + 1) (s6 (Int32.toNatClampNeg (42 + x6))) s6 he H locs hP hD hS ls (lv_sub hl [2, 3, 4, 1, 0] rfl)
  have hS0 := hS
  have key : ∀ (H : Heap) (locs : List Loc), H = ss.heap → locs = [] → va_P D vwCl (wModel k g s_0 im fr hd nw hh qs qz it th hm ow lo) H → va_S (va_A (wModel k g s_0 im fr hd nw hh qs qz it th hm ow lo) ss.heap.size) ss.heap H locs → W pp l ee ({ frames := 4, cells := 0, slots := 0, locals := 87 } : Room) ss mm ([.ref (g 0), .int p1] : List Value).toArray bl me co H locs 0 0 (MQ bl (cQi D k (wModel k g s_0 im fr hd nw hh qs qz it th hm ow lo) ss.heap.size r (wModel k g s' im fr hd nw hh qs qz it th hm ow lo)) ([.ref (g 0), .int p1] : List Value).toArray ss 0 0 (va_A (wModel k g s_0 im fr hd nw hh qs qz it th hm ow lo) ss.heap.size)) (F0 mm 0 ls []) := by
    intro H locs _ _ hP hS
    refine lv_aload_n hx hb dX8_promote_0 rfl (lv_at hl 0 rfl) ?_
    refine lv_iload_n hx hb dX8_promote_1 rfl (lv_at hl 1 rfl) ?_
    refine lv_iconst (v := 0) hx hb dX8_promote_2 (by decide) ?_
    obtain ⟨v1001, h1002, he⟩ := bn1_i he
    refine cVir (As := [.int p1, .int 0]) (rest := []) ⟨hx, hb, hml, hown, hts⟩ hK hA hP hD hS (mX8_asked l D k g (s := s_0) (im := im) (fr := fr) (hd := hd) (nw := nw) (hh := hh) (qs := qs) (qz := qz) (it := it) (th := th) (hm := hm) (ow := ow) (lo := lo) h1002) (cwV 2 hts gX8_promote_X8_asked rfl rfl rfl kX8_asked ⟨Nat.le_of_ble_eq_true rfl, Nat.le_of_ble_eq_true rfl⟩) [0, 1, 2, 3, 4, 5, 6, 7, 8, 9] rfl rfl 0 rfl rfl rfl hl.1 rfl (Nat.le_of_ble_eq_true rfl) ⟨Nat.le_refl 0, Nat.le_refl 0⟩ dX8_promote_3 (fun H locs hP hD hS => ?_)
    refine lv_istore_n (lv' := [(2, .int v1001), (0, .ref (g 0)), (1, .int p1)]) hx hb dX8_promote_6 rfl hl (by decide) rfl (fun ls hl => ?_)
    refine lv_iload_n hx hb dX8_promote_7 rfl (lv_at hl 0 rfl) ?_
    refine lv_if_eq (tgt := 13) hx hb dX8_promote_8 (by decide) (fun c1003 => ?_) (fun c1003 => ?_)
    · have he := ifp he c1003
      refine lv_aload_n hx hb dX8_promote_13 rfl (lv_at hl 1 rfl) ?_
      refine lv_iload_n hx hb dX8_promote_14 rfl (lv_at hl 2 rfl) ?_
      obtain ⟨v1004, h1005, he⟩ := bn1_i he
      refine cVir (As := [.int p1]) (rest := []) ⟨hx, hb, hml, hown, hts⟩ hK hA hP hD hS (mX8_originOf l D k g (s := s_0) (im := im) (fr := fr) (hd := hd) (nw := nw) (hh := hh) (qs := qs) (qz := qz) (it := it) (th := th) (hm := hm) (ow := ow) (lo := lo) h1005) (cwV 1 hts gX8_promote_X8_originOf rfl rfl rfl kX8_originOf ⟨Nat.le_of_ble_eq_true rfl, Nat.le_of_ble_eq_true rfl⟩) [0, 1, 2, 3, 4, 5, 6, 7, 8, 9] rfl rfl 0 rfl rfl rfl hl.1 rfl (Nat.le_of_ble_eq_true rfl) ⟨Nat.le_refl 0, Nat.le_refl 0⟩ dX8_promote_15 (fun H locs hP hD hS => ?_)
      refine lv_istore_n (lv' := [(3, .int v1004), (2, .int v1001), (0, .ref (g 0)), (1, .int p1)]) hx hb dX8_promote_18 rfl hl (by decide) rfl (fun ls hl => ?_)
      refine lv_iload_n hx hb dX8_promote_19 rfl (lv_at hl 0 rfl) ?_
      refine lv_iconst (v := (-1)) hx hb dX8_promote_20 (by decide) ?_
      refine lv_icmp_ne (tgt := 27) hx hb dX8_promote_21 (by decide) (fun c1006 => ?_) (fun c1006 => ?_)
      · have he := ifn he c1006
        refine lv_aload_n hx hb dX8_promote_27 rfl (lv_at hl 2 rfl) ?_
        refine va_get (D := D) (ci := 8) (v := .ref (g 1)) (C := RX8) (T := TX8) (N := 13) hx hb hts iX8 hown hK hP 0 rfl rfl 1 (by decide) w1 (fun _ h9 => h9) rfl dX8_promote_28 ?_
        refine lv_bipush (v := 62) hx hb dX8_promote_31 (by decide) ?_
        refine lv_iload_n hx hb dX8_promote_33 rfl (lv_at hl 0 rfl) ?_
        refine lv_iadd hx hb dX8_promote_34 ?_
        obtain ⟨h1007, he⟩ := grd_i he
        refine va_iald hx hb hK hP 1 0 rfl rfl (ix_in h1007) dX8_promote_35 ?_
        refine lv_istore (lv' := [(4, .int (s_0 (Int32.toNatClampNeg (62 + v1004)))), (3, .int v1004), (2, .int v1001), (0, .ref (g 0)), (1, .int p1)]) hx hb dX8_promote_36 hl (by decide) rfl (fun ls hl => ?_)
        refine lv_iconst (v := 0) hx hb dX8_promote_38 (by decide) ?_
        refine lv_istore (lv' := [(5, .int 0), (4, .int (s_0 (Int32.toNatClampNeg (62 + v1004)))), (3, .int v1004), (2, .int v1001), (0, .ref (g 0)), (1, .int p1)]) hx hb dX8_promote_39 hl (by decide) rfl (fun ls hl => ?_)
        refine lv_aload_n hx hb dX8_promote_41 rfl (lv_at hl 4 rfl) ?_
        refine va_get (D := D) (ci := 8) (v := .ref (g 1)) (C := RX8) (T := TX8) (N := 13) hx hb hts iX8 hown hK hP 0 rfl rfl 1 (by decide) w1 (fun _ h9 => h9) rfl dX8_promote_42 ?_
        refine lv_bipush (v := 42) hx hb dX8_promote_45 (by decide) ?_
        refine lv_iload_n hx hb dX8_promote_47 rfl (lv_at hl 5 rfl) ?_
        refine lv_iadd hx hb dX8_promote_48 ?_
        obtain ⟨h1008, he⟩ := grd_i he
        refine va_iald hx hb hK hP 1 0 rfl rfl (ix_in h1008) dX8_promote_49 ?_
        refine lv_istore (lv' := [(6, .int (s_0 (Int32.toNatClampNeg (42 + p1)))), (5, .int 0), (4, .int (s_0 (Int32.toNatClampNeg (62 + v1004)))), (3, .int v1004), (2, .int v1001), (0, .ref (g 0)), (1, .int p1)]) hx hb dX8_promote_50 hl (by decide) rfl (fun ls hl => ?_)
        exact B52 600 p1 (s_0 (Int32.toNatClampNeg (62 + v1004))) 0 (s_0 (Int32.toNatClampNeg (42 + p1))) s_0 he H locs hP hD hS ls (lv_sub hl [5, 6, 2, 1, 0] rfl)
      · have he := ifp he c1006
        refine lv_bipush (v := (-3)) hx hb dX8_promote_24 (by decide) ?_
        obtain ⟨rfl, rfl⟩ := some2 he
        exact cRi hx hb hr hlk hK rfl hP hD hS dX8_promote_26
    · have he := ifn he c1003
      refine lv_iload_n hx hb dX8_promote_11 rfl (lv_at hl 0 rfl) ?_
      obtain ⟨rfl, rfl⟩ := some2 he
      exact cRi hx hb hr hlk hK rfl hP hD hS dX8_promote_12
  exact key ss.heap [] rfl rfl hP hS
theorem kX8_rollback : yX8_rollback.cls = RX8 ∧ yX8_rollback.cls ≠ "java/lang/invoke/MethodHandle" ∧ yX8_rollback.cls ≠ "java/lang/invoke/VarHandle" ∧ (parseMethodDescriptor yX8_rollback.desc).map (fun d => d.parameters.length) = some 1 := by decide +kernel
set_option maxRecDepth 100000 in
set_option maxHeartbeats 4000000 in
theorem mX8_rollback (l : Launch) (D : va_G) (k : Nat → ClassId) (g : Nat → Nat) {s_0 : Nat → Int32} {im : Nat → Int32} {fr : Nat → Int32} {hd_0 : Nat → Int32} {nw : Nat → Int32} {hh : Nat → Int32} {qs : Nat → Int32} {qz : Nat → Int32} {it : Nat → Int64} {th : Int32} {hm : Int32} {ow : Int32} {lo : Int32} {p1 : Int32} {r : Int32} {s' : Nat → Int32} {hd' : Nat → Int32} (he : xX8_rollback s_0 hd_0 p1 = some (r, s', hd')) : CtI l D k yX8_rollback wsX8_rollback ({ frames := 6, cells := 0, slots := 0, locals := 130 } : Room) [.ref (g 0), .int p1] (wModel k g s_0 im fr hd_0 nw hh qs qz it th hm ow lo) r (wModel k g s' im fr hd' nw hh qs qz it th hm ow lo) := by
  intro sz9
  refine cSt (lv := [(0, .ref (g 0)), (1, .int p1)]) (own := RX8) (cc := cX8_rollback) (nL := 3) (ret := (some .int)) (by decide +kernel) rfl rfl (Nat.le_of_ble_eq_true rfl) rfl ?_
  intro pp ee ss mm bl me co hsz hC0 hP hD hS ls hl
  subst hsz
  obtain ⟨hx, hb, hr, hml, hown, hts, hK, hlk⟩ := hC0
  have hA : ∀ q, ss.heap.size ≤ q → va_A (wModel k g s_0 im fr hd_0 nw hh qs qz it th hm ow lo) ss.heap.size q := fun q h => Or.inr h
  have iX8 : ∀ w ∈ wsX80, w ∈ wsX8_rollback := fun _ h => List.mem_cons_of_mem _ (List.mem_append_right _ h)
  have w1 := hts (.fieldLink RX8 7 "DeadListPoolModel" "s" "[I") (List.mem_of_getElem? (i := 1) rfl)
  have hS0 := hS
  have key : ∀ (H : Heap) (locs : List Loc), H = ss.heap → locs = [] → va_P D vwCl (wModel k g s_0 im fr hd_0 nw hh qs qz it th hm ow lo) H → va_S (va_A (wModel k g s_0 im fr hd_0 nw hh qs qz it th hm ow lo) ss.heap.size) ss.heap H locs → W pp l ee ({ frames := 6, cells := 0, slots := 0, locals := 130 } : Room) ss mm ([.ref (g 0), .int p1] : List Value).toArray bl me co H locs 0 0 (MQ bl (cQi D k (wModel k g s_0 im fr hd_0 nw hh qs qz it th hm ow lo) ss.heap.size r (wModel k g s' im fr hd' nw hh qs qz it th hm ow lo)) ([.ref (g 0), .int p1] : List Value).toArray ss 0 0 (va_A (wModel k g s_0 im fr hd_0 nw hh qs qz it th hm ow lo) ss.heap.size)) (F0 mm 0 ls []) := by
    intro H locs _ _ hP hS
    refine lv_aload_n hx hb dX8_rollback_0 rfl (lv_at hl 0 rfl) ?_
    refine lv_iload_n hx hb dX8_rollback_1 rfl (lv_at hl 1 rfl) ?_
    refine lv_iconst (v := 0) hx hb dX8_rollback_2 (by decide) ?_
    obtain ⟨v1001, h1002, he⟩ := bn1_i he
    refine cVir (As := [.int p1, .int 0]) (rest := []) ⟨hx, hb, hml, hown, hts⟩ hK hA hP hD hS (mX8_asked l D k g (s := s_0) (im := im) (fr := fr) (hd := hd_0) (nw := nw) (hh := hh) (qs := qs) (qz := qz) (it := it) (th := th) (hm := hm) (ow := ow) (lo := lo) h1002) (cwV 2 hts gX8_rollback_X8_asked rfl rfl rfl kX8_asked ⟨Nat.le_of_ble_eq_true rfl, Nat.le_of_ble_eq_true rfl⟩) [0, 1, 2, 3, 4, 5, 6, 7, 8, 9] rfl rfl 0 rfl rfl rfl hl.1 rfl (Nat.le_of_ble_eq_true rfl) ⟨Nat.le_refl 0, Nat.le_refl 0⟩ dX8_rollback_3 (fun H locs hP hD hS => ?_)
    refine lv_istore_n (lv' := [(2, .int v1001), (0, .ref (g 0)), (1, .int p1)]) hx hb dX8_rollback_6 rfl hl (by decide) rfl (fun ls hl => ?_)
    refine lv_iload_n hx hb dX8_rollback_7 rfl (lv_at hl 0 rfl) ?_
    refine lv_if_eq (tgt := 13) hx hb dX8_rollback_8 (by decide) (fun c1003 => ?_) (fun c1003 => ?_)
    · have he := ifp he c1003
      refine lv_aload_n hx hb dX8_rollback_13 rfl (lv_at hl 1 rfl) ?_
      refine va_get (D := D) (ci := 8) (v := .ref (g 1)) (C := RX8) (T := TX8) (N := 13) hx hb hts iX8 hown hK hP 0 rfl rfl 1 (by decide) w1 (fun _ h9 => h9) rfl dX8_rollback_14 ?_
      refine lv_bipush (v := 42) hx hb dX8_rollback_17 (by decide) ?_
      refine lv_iload_n hx hb dX8_rollback_19 rfl (lv_at hl 2 rfl) ?_
      refine lv_iadd hx hb dX8_rollback_20 ?_
      obtain ⟨h1004, he⟩ := grd_i he
      refine va_iald hx hb hK hP 1 0 rfl rfl (ix_in h1004) dX8_rollback_21 ?_
      refine lv_iconst (v := (-1)) hx hb dX8_rollback_22 (by decide) ?_
      refine lv_icmp_ne (tgt := 29) hx hb dX8_rollback_23 (by decide) (fun c1005 => ?_) (fun c1005 => ?_)
      · have he := ifn he c1005
        refine lv_aload_n hx hb dX8_rollback_29 rfl (lv_at hl 1 rfl) ?_
        refine lv_iload_n hx hb dX8_rollback_30 rfl (lv_at hl 2 rfl) ?_
        refine lv_aload_n hx hb dX8_rollback_31 rfl (lv_at hl 1 rfl) ?_
        refine va_get (D := D) (ci := 8) (v := .ref (g 1)) (C := RX8) (T := TX8) (N := 13) hx hb hts iX8 hown hK hP 0 rfl rfl 1 (by decide) w1 (fun _ h9 => h9) rfl dX8_rollback_32 ?_
        refine lv_bipush (v := 42) hx hb dX8_rollback_35 (by decide) ?_
        refine lv_iload_n hx hb dX8_rollback_37 rfl (lv_at hl 2 rfl) ?_
        refine lv_iadd hx hb dX8_rollback_38 ?_
        obtain ⟨h1006, he⟩ := grd_i he
        refine va_iald hx hb hK hP 1 0 rfl rfl (ix_in h1006) dX8_rollback_39 ?_
        obtain ⟨s1007, h1008, he⟩ := bn1_i he
        refine cVv (wf := (wModel k g s1007 im fr hd_0 nw hh qs qz it th hm ow lo)) (As := [.int p1, .int (s_0 (Int32.toNatClampNeg (42 + p1)))]) (rest := []) ⟨hx, hb, hml, hown, hts⟩ hK hA hP hD hS (mX8_takesSlots l D k g (s_0 := s_0) (im := im) (fr := fr) (hd := hd_0) (nw := nw) (hh := hh) (qs := qs) (qz := qz) (it := it) (th := th) (hm := hm) (ow := ow) (lo := lo) h1008) (cwV 2 hts gX8_rollback_X8_takesSlots rfl rfl rfl kX8_takesSlots ⟨Nat.le_of_ble_eq_true rfl, Nat.le_of_ble_eq_true rfl⟩) [0, 1, 2, 3, 4, 5, 6, 7, 8, 9] rfl rfl rfl [false, false, false, false, false, false, false, false, false, false] trivial 10 rfl (by decide +kernel) rfl 0 rfl rfl rfl hl.1 rfl (Nat.le_of_ble_eq_true rfl) ⟨Nat.le_refl 0, Nat.le_refl 0⟩ dX8_rollback_40 (fun H locs hP hD hS => ?_)
        refine lv_aload_n hx hb dX8_rollback_43 rfl (lv_at hl 1 rfl) ?_
        obtain ⟨v1009, s1010, hd1011, h1012, he⟩ := bn3_i he
        refine cVi (wf := (wModel k g s1010 im fr hd1011 nw hh qs qz it th hm ow lo)) (As := []) (rest := []) ⟨hx, hb, hml, hown, hts⟩ hK hA hP hD hS (mX8_frees l D k g (s_0 := s1007) (im := im) (fr := fr) (hd_0 := hd_0) (nw := nw) (hh := hh) (qs := qs) (qz := qz) (it := it) (th := th) (hm := hm) (ow := ow) (lo := lo) h1012) (cwV 0 hts gX8_rollback_X8_frees rfl rfl rfl kX8_frees ⟨Nat.le_of_ble_eq_true rfl, Nat.le_of_ble_eq_true rfl⟩) [0, 1, 2, 3, 4, 5, 6, 7, 8, 9] rfl rfl rfl [false, false, false, false, false, false, false, false, false, false] trivial 10 rfl (by decide +kernel) rfl 0 rfl rfl rfl hl.1 rfl (Nat.le_of_ble_eq_true rfl) ⟨Nat.le_refl 0, Nat.le_refl 0⟩ dX8_rollback_44 (fun H locs hP hD hS => ?_)
        obtain ⟨rfl, rfl, rfl⟩ := some3 he
        exact cRi hx hb hr hlk hK rfl hP hD hS dX8_rollback_47
      · have he := ifp he c1005
        refine lv_bipush (v := (-3)) hx hb dX8_rollback_26 (by decide) ?_
        obtain ⟨rfl, rfl, rfl⟩ := some3 he
        exact cRi hx hb hr hlk hK rfl hP hD hS dX8_rollback_28
    · have he := ifn he c1003
      refine lv_iload_n hx hb dX8_rollback_11 rfl (lv_at hl 0 rfl) ?_
      obtain ⟨rfl, rfl, rfl⟩ := some3 he
      exact cRi hx hb hr hlk hK rfl hP hD hS dX8_rollback_12
  exact key ss.heap [] rfl rfl hP hS
theorem kX8_tick : yX8_tick.cls = RX8 ∧ yX8_tick.cls ≠ "java/lang/invoke/MethodHandle" ∧ yX8_tick.cls ≠ "java/lang/invoke/VarHandle" ∧ (parseMethodDescriptor yX8_tick.desc).map (fun d => d.parameters.length) = some 0 := by decide +kernel
set_option maxRecDepth 100000 in
set_option maxHeartbeats 4000000 in
theorem mX8_tick (l : Launch) (D : va_G) (k : Nat → ClassId) (g : Nat → Nat) {s_0 : Nat → Int32} {im : Nat → Int32} {fr : Nat → Int32} {hd : Nat → Int32} {nw : Nat → Int32} {hh : Nat → Int32} {qs : Nat → Int32} {qz : Nat → Int32} {it : Nat → Int64} {th : Int32} {hm : Int32} {ow : Int32} {lo : Int32}  {r : Int32} {s' : Nat → Int32} (he : xX8_tick s_0 = some (r, s')) : CtI l D k yX8_tick wsX8_tick ({ frames := 0, cells := 0, slots := 0, locals := 0 } : Room) [.ref (g 0)] (wModel k g s_0 im fr hd nw hh qs qz it th hm ow lo) r (wModel k g s' im fr hd nw hh qs qz it th hm ow lo) := by
  intro sz9
  refine cSt (lv := [(0, .ref (g 0))]) (own := RX8) (cc := cX8_tick) (nL := 1) (ret := (some .int)) (by decide +kernel) rfl rfl (Nat.le_of_ble_eq_true rfl) rfl ?_
  intro pp ee ss mm bl me co hsz hC0 hP hD hS ls hl
  subst hsz
  obtain ⟨hx, hb, hr, hml, hown, hts, hK, hlk⟩ := hC0
  have hA : ∀ q, ss.heap.size ≤ q → va_A (wModel k g s_0 im fr hd nw hh qs qz it th hm ow lo) ss.heap.size q := fun q h => Or.inr h
  have iX8 : ∀ w ∈ wsX80, w ∈ wsX8_tick := fun _ h => List.mem_cons_of_mem _ (List.mem_append_right _ h)
  have w1 := hts (.fieldLink RX8 7 "DeadListPoolModel" "s" "[I") (List.mem_of_getElem? (i := 1) rfl)
  have w2 := hts (.constant RX8 118 (100000)) (List.mem_of_getElem? (i := 2) rfl)
  have hS0 := hS
  have key : ∀ (H : Heap) (locs : List Loc), H = ss.heap → locs = [] → va_P D vwCl (wModel k g s_0 im fr hd nw hh qs qz it th hm ow lo) H → va_S (va_A (wModel k g s_0 im fr hd nw hh qs qz it th hm ow lo) ss.heap.size) ss.heap H locs → W pp l ee ({ frames := 0, cells := 0, slots := 0, locals := 0 } : Room) ss mm ([.ref (g 0)] : List Value).toArray bl me co H locs 0 0 (MQ bl (cQi D k (wModel k g s_0 im fr hd nw hh qs qz it th hm ow lo) ss.heap.size r (wModel k g s' im fr hd nw hh qs qz it th hm ow lo)) ([.ref (g 0)] : List Value).toArray ss 0 0 (va_A (wModel k g s_0 im fr hd nw hh qs qz it th hm ow lo) ss.heap.size)) (F0 mm 0 ls []) := by
    intro H locs _ _ hP hS
    refine lv_aload_n hx hb dX8_tick_0 rfl (lv_at hl 0 rfl) ?_
    refine va_get (D := D) (ci := 8) (v := .ref (g 1)) (C := RX8) (T := TX8) (N := 13) hx hb hts iX8 hown hK hP 0 rfl rfl 1 (by decide) w1 (fun _ h9 => h9) rfl dX8_tick_1 ?_
    refine lv_iconst (v := 0) hx hb dX8_tick_4 (by decide) ?_
    obtain ⟨h1001, he⟩ := grd_i he
    refine va_iald hx hb hK hP 1 0 rfl rfl (ix_in h1001) dX8_tick_5 ?_
    refine lv_ldc hx hb hown w2 dX8_tick_6 ?_
    refine lv_icmp_lt (tgt := 14) hx hb dX8_tick_8 (by decide) (fun c1002 => ?_) (fun c1002 => ?_)
    · have he := ifp he c1002
      refine lv_aload_n hx hb dX8_tick_14 rfl (lv_at hl 0 rfl) ?_
      refine va_get (D := D) (ci := 8) (v := .ref (g 1)) (C := RX8) (T := TX8) (N := 13) hx hb hts iX8 hown hK hP 0 rfl rfl 1 (by decide) w1 (fun _ h9 => h9) rfl dX8_tick_15 ?_
      refine lv_iconst (v := 0) hx hb dX8_tick_18 (by decide) ?_
      refine lv_dup2_11 hx hb dX8_tick_19 rfl rfl ?_
      obtain ⟨h1003, he⟩ := grd_i he
      refine va_iald hx hb hK hP 1 0 rfl rfl (ix_in h1003) dX8_tick_20 ?_
      refine lv_iconst (v := 1) hx hb dX8_tick_21 (by decide) ?_
      refine lv_iadd hx hb dX8_tick_22 ?_
      obtain ⟨h1004, he⟩ := grd_i he
      obtain ⟨s1005, e1006, he⟩ := lt_i he
      refine va_iast hx hb hK hP hD hS 1 0 rfl rfl (ix_in h1004) dX8_tick_23 (fun H locs hP hD hS => ?_)
      have hP : va_P D vwCl (wModel k g s1005 im fr hd nw hh qs qz it th hm ow lo) H := by rw [e1006]; exact hP
      have hD : va_D _ (wModel k g s1005 im fr hd nw hh qs qz it th hm ow lo) := va_D_adr (by rw [e1006]; rfl) hD
      refine lv_aload_n hx hb dX8_tick_24 rfl (lv_at hl 0 rfl) ?_
      refine va_get (D := D) (ci := 8) (v := .ref (g 1)) (C := RX8) (T := TX8) (N := 13) hx hb hts iX8 hown hK hP 0 rfl rfl 1 (by decide) w1 (fun _ h9 => h9) rfl dX8_tick_25 ?_
      refine lv_iconst (v := 0) hx hb dX8_tick_28 (by decide) ?_
      obtain ⟨h1007, he⟩ := grd_i he
      refine va_iald hx hb hK hP 1 0 rfl rfl (ix_in h1007) dX8_tick_29 ?_
      obtain ⟨rfl, rfl⟩ := some2 he
      exact cRi hx hb hr hlk hK rfl hP hD hS dX8_tick_30
    · have he := ifn he c1002
      refine lv_bipush (v := (-3)) hx hb dX8_tick_11 (by decide) ?_
      obtain ⟨rfl, rfl⟩ := some2 he
      exact cRi hx hb hr hlk hK rfl hP hD hS dX8_tick_13
  exact key ss.heap [] rfl rfl hP hS
theorem kX8_heldMany : yX8_heldMany.cls = RX8 ∧ yX8_heldMany.cls ≠ "java/lang/invoke/MethodHandle" ∧ yX8_heldMany.cls ≠ "java/lang/invoke/VarHandle" ∧ (parseMethodDescriptor yX8_heldMany.desc).map (fun d => d.parameters.length) = some 1 := by decide +kernel
set_option maxRecDepth 100000 in
set_option maxHeartbeats 4000000 in
theorem mX8_heldMany (l : Launch) (D : va_G) (k : Nat → ClassId) (g : Nat → Nat) {s : Nat → Int32} {im : Nat → Int32} {fr : Nat → Int32} {hd : Nat → Int32} {nw : Nat → Int32} {hh : Nat → Int32} {qs : Nat → Int32} {qz : Nat → Int32} {it : Nat → Int64} {th : Int32} {hm : Int32} {ow : Int32} {lo : Int32} {p1 : Int32} {r : Int32}  (he : xX8_heldMany s p1 = some r) : CtI l D k yX8_heldMany wsX8_heldMany ({ frames := 4, cells := 0, slots := 0, locals := 85 } : Room) [.ref (g 0), .int p1] (wModel k g s im fr hd nw hh qs qz it th hm ow lo) r (wModel k g s im fr hd nw hh qs qz it th hm ow lo) := by
  intro sz9
  refine cSt (lv := [(0, .ref (g 0)), (1, .int p1)]) (own := RX8) (cc := cX8_heldMany) (nL := 4) (ret := (some .int)) (by decide +kernel) rfl rfl (Nat.le_of_ble_eq_true rfl) rfl ?_
  intro pp ee ss mm bl me co hsz hC0 hP hD hS ls hl
  subst hsz
  obtain ⟨hx, hb, hr, hml, hown, hts, hK, hlk⟩ := hC0
  have hA : ∀ q, ss.heap.size ≤ q → va_A (wModel k g s im fr hd nw hh qs qz it th hm ow lo) ss.heap.size q := fun q h => Or.inr h
  have iX8 : ∀ w ∈ wsX80, w ∈ wsX8_heldMany := fun _ h => List.mem_cons_of_mem _ (List.mem_append_right _ h)
  have w1 := hts (.fieldLink RX8 7 "DeadListPoolModel" "s" "[I") (List.mem_of_getElem? (i := 1) rfl)
  have B4 : ∀ (n4 : Nat) (x1 : Int32) (x2 : Int32) (x3 : Int32), xX8_heldMany_4 s n4 x1 x2 x3 = some r → ∀ (H : Heap) (locs : List Loc), va_P D vwCl (wModel k g s im fr hd nw hh qs qz it th hm ow lo) H → va_D (va_A (wModel k g s im fr hd nw hh qs qz it th hm ow lo) ss.heap.size) (wModel k g s im fr hd nw hh qs qz it th hm ow lo) → va_S (va_A (wModel k g s im fr hd nw hh qs qz it th hm ow lo) ss.heap.size) ss.heap H locs → ∀ ls : Array Slot, lv_has ls 4 [(0, .ref (g 0)), (1, .int x1), (2, .int x2), (3, .int x3)] → W pp l ee ({ frames := 4, cells := 0, slots := 0, locals := 85 } : Room) ss mm ([.ref (g 0), .int p1] : List Value).toArray bl me co H locs 0 0 (MQ bl (cQi D k (wModel k g s im fr hd nw hh qs qz it th hm ow lo) ss.heap.size r (wModel k g s im fr hd nw hh qs qz it th hm ow lo)) ([.ref (g 0), .int p1] : List Value).toArray ss 0 0 (va_A (wModel k g s im fr hd nw hh qs qz it th hm ow lo) ss.heap.size)) (F0 mm 4 ls []) := by
    intro n4
    induction n4 with
    | zero =>
      intro x1 x2 x3 he
      exact absurd (show (none : Option (Int32)) = some r from he) (by simp)
    | succ n4 ih4 =>
      intro x1 x2 x3 he H locs hP hD hS ls hl
      refine lv_iload_n hx hb dX8_heldMany_4 rfl (lv_at hl 3 rfl) ?_
      refine lv_bipush (v := 12) hx hb dX8_heldMany_5 (by decide) ?_
      refine lv_icmp_ge (tgt := 50) hx hb dX8_heldMany_7 (by decide) (fun c1 => ?_) (fun c1 => ?_)
      · have he := ifp he c1
        refine lv_iload_n hx hb dX8_heldMany_50 rfl (lv_at hl 2 rfl) ?_
        obtain rfl := some1 he
        exact cRi hx hb hr hlk hK rfl hP hD hS dX8_heldMany_51
      · have he := ifn he c1
        refine lv_iload_n hx hb dX8_heldMany_10 rfl (lv_at hl 2 rfl) ?_
        refine lv_aload_n hx hb dX8_heldMany_11 rfl (lv_at hl 0 rfl) ?_
        refine lv_iload_n hx hb dX8_heldMany_12 rfl (lv_at hl 1 rfl) ?_
        obtain ⟨v2, h3, he⟩ := bn1_i he
        refine cVir (As := [.int x1]) (rest := [.int x2]) ⟨hx, hb, hml, hown, hts⟩ hK hA hP hD hS (mX8_hasSlots l D k g (s := s) (im := im) (fr := fr) (hd := hd) (nw := nw) (hh := hh) (qs := qs) (qz := qz) (it := it) (th := th) (hm := hm) (ow := ow) (lo := lo) h3) (cwV 1 hts gX8_heldMany_X8_hasSlots rfl rfl rfl kX8_hasSlots ⟨Nat.le_of_ble_eq_true rfl, Nat.le_of_ble_eq_true rfl⟩) [0, 1, 2, 3, 4, 5, 6, 7, 8, 9] rfl rfl 0 rfl rfl rfl hl.1 rfl (Nat.le_of_ble_eq_true rfl) ⟨Nat.le_refl 0, Nat.le_refl 0⟩ dX8_heldMany_13 (fun H locs hP hD hS => ?_)
        refine lv_if_eq (tgt := 41) hx hb dX8_heldMany_16 (by decide) (fun c4 => ?_) (fun c4 => ?_)
        · have he := ifp he c4
          refine lv_iconst (v := 0) hx hb dX8_heldMany_41 (by decide) ?_
          refine lv_iadd hx hb dX8_heldMany_42 ?_
          refine lv_istore_n (lv' := [(2, .int (x2 + 0)), (0, .ref (g 0)), (1, .int x1), (3, .int x3)]) hx hb dX8_heldMany_43 rfl hl (by decide) rfl (fun ls hl => ?_)
          refine lv_iinc (v := (x3 + 1)) (lv' := [(3, .int (x3 + 1)), (2, .int (x2 + 0)), (0, .ref (g 0)), (1, .int x1)]) hx hb dX8_heldMany_44 hl (k := 3) rfl rfl (by decide) rfl (fun ls hl => ?_)
          refine lv_goto (tgt := 4) hx hb dX8_heldMany_47 (by decide) ?_
          exact ih4 x1 (x2 + 0) (x3 + 1) he H locs hP hD hS ls (lv_sub hl [2, 3, 1, 0] rfl)
        · have he := ifn he c4
          refine lv_aload_n hx hb dX8_heldMany_19 rfl (lv_at hl 0 rfl) ?_
          refine va_get (D := D) (ci := 8) (v := .ref (g 1)) (C := RX8) (T := TX8) (N := 13) hx hb hts iX8 hown hK hP 0 rfl rfl 1 (by decide) w1 (fun _ h9 => h9) rfl dX8_heldMany_20 ?_
          refine lv_bipush (v := 122) hx hb dX8_heldMany_23 (by decide) ?_
          refine lv_bipush (v := 12) hx hb dX8_heldMany_25 (by decide) ?_
          refine lv_iload_n hx hb dX8_heldMany_27 rfl (lv_at hl 1 rfl) ?_
          refine lv_imul hx hb dX8_heldMany_28 ?_
          refine lv_iadd hx hb dX8_heldMany_29 ?_
          refine lv_iload_n hx hb dX8_heldMany_30 rfl (lv_at hl 3 rfl) ?_
          refine lv_iadd hx hb dX8_heldMany_31 ?_
          obtain ⟨h5, he⟩ := grd_i he
          refine va_iald hx hb hK hP 1 0 rfl rfl (ix_in h5) dX8_heldMany_32 ?_
          refine lv_iconst (v := (-1)) hx hb dX8_heldMany_33 (by decide) ?_
          refine lv_icmp_eq (tgt := 41) hx hb dX8_heldMany_34 (by decide) (fun c6 => ?_) (fun c6 => ?_)
          · have he := ifp he c6
            refine lv_iconst (v := 0) hx hb dX8_heldMany_41 (by decide) ?_
            refine lv_iadd hx hb dX8_heldMany_42 ?_
            refine lv_istore_n (lv' := [(2, .int (x2 + 0)), (0, .ref (g 0)), (1, .int x1), (3, .int x3)]) hx hb dX8_heldMany_43 rfl hl (by decide) rfl (fun ls hl => ?_)
            refine lv_iinc (v := (x3 + 1)) (lv' := [(3, .int (x3 + 1)), (2, .int (x2 + 0)), (0, .ref (g 0)), (1, .int x1)]) hx hb dX8_heldMany_44 hl (k := 3) rfl rfl (by decide) rfl (fun ls hl => ?_)
            refine lv_goto (tgt := 4) hx hb dX8_heldMany_47 (by decide) ?_
            exact ih4 x1 (x2 + 0) (x3 + 1) he H locs hP hD hS ls (lv_sub hl [2, 3, 1, 0] rfl)
          · have he := ifn he c6
            refine lv_iconst (v := 1) hx hb dX8_heldMany_37 (by decide) ?_
            refine lv_goto (tgt := 42) hx hb dX8_heldMany_38 (by decide) ?_
            refine lv_iadd hx hb dX8_heldMany_42 ?_
            refine lv_istore_n (lv' := [(2, .int (x2 + 1)), (0, .ref (g 0)), (1, .int x1), (3, .int x3)]) hx hb dX8_heldMany_43 rfl hl (by decide) rfl (fun ls hl => ?_)
            refine lv_iinc (v := (x3 + 1)) (lv' := [(3, .int (x3 + 1)), (2, .int (x2 + 1)), (0, .ref (g 0)), (1, .int x1)]) hx hb dX8_heldMany_44 hl (k := 3) rfl rfl (by decide) rfl (fun ls hl => ?_)
            refine lv_goto (tgt := 4) hx hb dX8_heldMany_47 (by decide) ?_
            exact ih4 x1 (x2 + 1) (x3 + 1) he H locs hP hD hS ls (lv_sub hl [2, 3, 1, 0] rfl)
  have hS0 := hS
  have key : ∀ (H : Heap) (locs : List Loc), H = ss.heap → locs = [] → va_P D vwCl (wModel k g s im fr hd nw hh qs qz it th hm ow lo) H → va_S (va_A (wModel k g s im fr hd nw hh qs qz it th hm ow lo) ss.heap.size) ss.heap H locs → W pp l ee ({ frames := 4, cells := 0, slots := 0, locals := 85 } : Room) ss mm ([.ref (g 0), .int p1] : List Value).toArray bl me co H locs 0 0 (MQ bl (cQi D k (wModel k g s im fr hd nw hh qs qz it th hm ow lo) ss.heap.size r (wModel k g s im fr hd nw hh qs qz it th hm ow lo)) ([.ref (g 0), .int p1] : List Value).toArray ss 0 0 (va_A (wModel k g s im fr hd nw hh qs qz it th hm ow lo) ss.heap.size)) (F0 mm 0 ls []) := by
    intro H locs _ _ hP hS
    refine lv_iconst (v := 0) hx hb dX8_heldMany_0 (by decide) ?_
    refine lv_istore_n (lv' := [(2, .int 0), (0, .ref (g 0)), (1, .int p1)]) hx hb dX8_heldMany_1 rfl hl (by decide) rfl (fun ls hl => ?_)
    refine lv_iconst (v := 0) hx hb dX8_heldMany_2 (by decide) ?_
    refine lv_istore_n (lv' := [(3, .int 0), (2, .int 0), (0, .ref (g 0)), (1, .int p1)]) hx hb dX8_heldMany_3 rfl hl (by decide) rfl (fun ls hl => ?_)
    exact B4 600 p1 0 0 he H locs hP hD hS ls (lv_sub hl [2, 3, 1, 0] rfl)
  exact key ss.heap [] rfl rfl hP hS
theorem kX8_told : yX8_told.cls = RX8 ∧ yX8_told.cls ≠ "java/lang/invoke/MethodHandle" ∧ yX8_told.cls ≠ "java/lang/invoke/VarHandle" ∧ (parseMethodDescriptor yX8_told.desc).map (fun d => d.parameters.length) = some 2 := by decide +kernel
set_option maxRecDepth 100000 in
set_option maxHeartbeats 4000000 in
theorem mX8_told (l : Launch) (D : va_G) (k : Nat → ClassId) (g : Nat → Nat) {s : Nat → Int32} {im : Nat → Int32} {fr : Nat → Int32} {hd : Nat → Int32} {nw : Nat → Int32} {hh : Nat → Int32} {qs : Nat → Int32} {qz : Nat → Int32} {it : Nat → Int64} {th : Int32} {hm : Int32} {ow : Int32} {lo : Int32} {p1 : Int32} {p2 : Int32} {r : Int32}  (he : xX8_told s p1 p2 = some r) : CtI l D k yX8_told wsX8_told ({ frames := 5, cells := 0, slots := 0, locals := 108 } : Room) [.ref (g 0), .int p1, .int p2] (wModel k g s im fr hd nw hh qs qz it th hm ow lo) r (wModel k g s im fr hd nw hh qs qz it th hm ow lo) := by
  intro sz9
  refine cSt (lv := [(0, .ref (g 0)), (1, .int p1), (2, .int p2)]) (own := RX8) (cc := cX8_told) (nL := 4) (ret := (some .int)) (by decide +kernel) rfl rfl (Nat.le_of_ble_eq_true rfl) rfl ?_
  intro pp ee ss mm bl me co hsz hC0 hP hD hS ls hl
  subst hsz
  obtain ⟨hx, hb, hr, hml, hown, hts, hK, hlk⟩ := hC0
  have hA : ∀ q, ss.heap.size ≤ q → va_A (wModel k g s im fr hd nw hh qs qz it th hm ow lo) ss.heap.size q := fun q h => Or.inr h
  have iX8 : ∀ w ∈ wsX80, w ∈ wsX8_told := fun _ h => List.mem_cons_of_mem _ (List.mem_append_right _ h)
  have w1 := hts (.fieldLink RX8 7 "DeadListPoolModel" "s" "[I") (List.mem_of_getElem? (i := 1) rfl)
  have hS0 := hS
  have key : ∀ (H : Heap) (locs : List Loc), H = ss.heap → locs = [] → va_P D vwCl (wModel k g s im fr hd nw hh qs qz it th hm ow lo) H → va_S (va_A (wModel k g s im fr hd nw hh qs qz it th hm ow lo) ss.heap.size) ss.heap H locs → W pp l ee ({ frames := 5, cells := 0, slots := 0, locals := 108 } : Room) ss mm ([.ref (g 0), .int p1, .int p2] : List Value).toArray bl me co H locs 0 0 (MQ bl (cQi D k (wModel k g s im fr hd nw hh qs qz it th hm ow lo) ss.heap.size r (wModel k g s im fr hd nw hh qs qz it th hm ow lo)) ([.ref (g 0), .int p1, .int p2] : List Value).toArray ss 0 0 (va_A (wModel k g s im fr hd nw hh qs qz it th hm ow lo) ss.heap.size)) (F0 mm 0 ls []) := by
    intro H locs _ _ hP hS
    refine lv_iload_n hx hb dX8_told_0 rfl (lv_at hl 2 rfl) ?_
    refine lv_iconst (v := 0) hx hb dX8_told_1 (by decide) ?_
    refine lv_bipush (v := 9) hx hb dX8_told_2 (by decide) ?_
    obtain ⟨v1001, h1002, he⟩ := bn1_i he
    refine cSi (rest := []) ⟨hx, hb, hml, hown, hts⟩ hK hA hP hD hS (mX8_in l D k h1002) (cwS 3 hts gX8_told_X8_in rfl rfl rfl kX8_in ⟨Nat.le_of_ble_eq_true rfl, Nat.le_of_ble_eq_true rfl⟩) rfl hl.1 rfl (Nat.le_of_ble_eq_true rfl) ⟨Nat.le_refl 0, Nat.le_refl 0⟩ dX8_told_4 (fun H locs hP hD hS => ?_)
    refine lv_if_ne (tgt := 13) hx hb dX8_told_7 (by decide) (fun c1003 => ?_) (fun c1003 => ?_)
    · have he := ifn he c1003
      refine lv_aload_n hx hb dX8_told_13 rfl (lv_at hl 0 rfl) ?_
      refine lv_iload_n hx hb dX8_told_14 rfl (lv_at hl 1 rfl) ?_
      obtain ⟨v1004, h1005, he⟩ := bn1_i he
      refine cVir (As := [.int p1]) (rest := []) ⟨hx, hb, hml, hown, hts⟩ hK hA hP hD hS (mX8_there l D k g (s := s) (im := im) (fr := fr) (hd := hd) (nw := nw) (hh := hh) (qs := qs) (qz := qz) (it := it) (th := th) (hm := hm) (ow := ow) (lo := lo) h1005) (cwV 1 hts gX8_told_X8_there rfl rfl rfl kX8_there ⟨Nat.le_of_ble_eq_true rfl, Nat.le_of_ble_eq_true rfl⟩) [0, 1, 2, 3, 4, 5, 6, 7, 8, 9] rfl rfl 0 rfl rfl rfl hl.1 rfl (Nat.le_of_ble_eq_true rfl) ⟨Nat.le_refl 0, Nat.le_refl 0⟩ dX8_told_15 (fun H locs hP hD hS => ?_)
      refine lv_istore_n (lv' := [(3, .int v1004), (0, .ref (g 0)), (1, .int p1), (2, .int p2)]) hx hb dX8_told_18 rfl hl (by decide) rfl (fun ls hl => ?_)
      refine lv_iload_n hx hb dX8_told_19 rfl (lv_at hl 0 rfl) ?_
      refine lv_if_eq (tgt := 25) hx hb dX8_told_20 (by decide) (fun c1006 => ?_) (fun c1006 => ?_)
      · have he := ifp he c1006
        refine lv_iload_n hx hb dX8_told_25 rfl (lv_at hl 3 rfl) ?_
        by_cases c1007 : p2 = 0
        · have he := ifp he c1007
          refine lv_tableIn (off := 50) (tgt := 76) hx hb dX8_told_26 (by rw [c1007]; decide) (by rw [c1007]; decide) (by rw [c1007]; rfl) (by decide) ?_
          refine lv_aload_n hx hb dX8_told_76 rfl (lv_at hl 1 rfl) ?_
          refine va_get (D := D) (ci := 8) (v := .ref (g 1)) (C := RX8) (T := TX8) (N := 13) hx hb hts iX8 hown hK hP 0 rfl rfl 1 (by decide) w1 (fun _ h9 => h9) rfl dX8_told_77 ?_
          refine lv_iconst (v := 2) hx hb dX8_told_80 (by decide) ?_
          refine lv_iload_n hx hb dX8_told_81 rfl (lv_at hl 2 rfl) ?_
          refine lv_iadd hx hb dX8_told_82 ?_
          obtain ⟨h1008, he⟩ := grd_i he
          refine va_iald hx hb hK hP 1 0 rfl rfl (ix_in h1008) dX8_told_83 ?_
          obtain rfl := some1 he
          exact cRi hx hb hr hlk hK rfl hP hD hS dX8_told_84
        · have he := ifn he c1007
          by_cases c1009 : p2 = 1
          · have he := ifp he c1009
            refine lv_tableIn (off := 59) (tgt := 85) hx hb dX8_told_26 (by rw [c1009]; decide) (by rw [c1009]; decide) (by rw [c1009]; rfl) (by decide) ?_
            refine lv_aload_n hx hb dX8_told_85 rfl (lv_at hl 1 rfl) ?_
            refine va_get (D := D) (ci := 8) (v := .ref (g 1)) (C := RX8) (T := TX8) (N := 13) hx hb hts iX8 hown hK hP 0 rfl rfl 1 (by decide) w1 (fun _ h9 => h9) rfl dX8_told_86 ?_
            refine lv_bipush (v := 22) hx hb dX8_told_89 (by decide) ?_
            refine lv_iload_n hx hb dX8_told_91 rfl (lv_at hl 2 rfl) ?_
            refine lv_iadd hx hb dX8_told_92 ?_
            obtain ⟨h1010, he⟩ := grd_i he
            refine va_iald hx hb hK hP 1 0 rfl rfl (ix_in h1010) dX8_told_93 ?_
            obtain rfl := some1 he
            exact cRi hx hb hr hlk hK rfl hP hD hS dX8_told_94
          · have he := ifn he c1009
            by_cases c1011 : p2 = 2
            · have he := ifp he c1011
              refine lv_tableIn (off := 69) (tgt := 95) hx hb dX8_told_26 (by rw [c1011]; decide) (by rw [c1011]; decide) (by rw [c1011]; rfl) (by decide) ?_
              refine lv_aload_n hx hb dX8_told_95 rfl (lv_at hl 1 rfl) ?_
              refine va_get (D := D) (ci := 8) (v := .ref (g 1)) (C := RX8) (T := TX8) (N := 13) hx hb hts iX8 hown hK hP 0 rfl rfl 1 (by decide) w1 (fun _ h9 => h9) rfl dX8_told_96 ?_
              refine lv_bipush (v := 42) hx hb dX8_told_99 (by decide) ?_
              refine lv_iload_n hx hb dX8_told_101 rfl (lv_at hl 2 rfl) ?_
              refine lv_iadd hx hb dX8_told_102 ?_
              obtain ⟨h1012, he⟩ := grd_i he
              refine va_iald hx hb hK hP 1 0 rfl rfl (ix_in h1012) dX8_told_103 ?_
              obtain rfl := some1 he
              exact cRi hx hb hr hlk hK rfl hP hD hS dX8_told_104
            · have he := ifn he c1011
              by_cases c1013 : p2 = 3
              · have he := ifp he c1013
                refine lv_tableIn (off := 79) (tgt := 105) hx hb dX8_told_26 (by rw [c1013]; decide) (by rw [c1013]; decide) (by rw [c1013]; rfl) (by decide) ?_
                refine lv_aload_n hx hb dX8_told_105 rfl (lv_at hl 1 rfl) ?_
                refine va_get (D := D) (ci := 8) (v := .ref (g 1)) (C := RX8) (T := TX8) (N := 13) hx hb hts iX8 hown hK hP 0 rfl rfl 1 (by decide) w1 (fun _ h9 => h9) rfl dX8_told_106 ?_
                refine lv_bipush (v := 62) hx hb dX8_told_109 (by decide) ?_
                refine lv_iload_n hx hb dX8_told_111 rfl (lv_at hl 2 rfl) ?_
                refine lv_iadd hx hb dX8_told_112 ?_
                obtain ⟨h1014, he⟩ := grd_i he
                refine va_iald hx hb hK hP 1 0 rfl rfl (ix_in h1014) dX8_told_113 ?_
                obtain rfl := some1 he
                exact cRi hx hb hr hlk hK rfl hP hD hS dX8_told_114
              · have he := ifn he c1013
                by_cases c1015 : p2 = 4
                · have he := ifp he c1015
                  refine lv_tableIn (off := 89) (tgt := 115) hx hb dX8_told_26 (by rw [c1015]; decide) (by rw [c1015]; decide) (by rw [c1015]; rfl) (by decide) ?_
                  refine lv_aload_n hx hb dX8_told_115 rfl (lv_at hl 1 rfl) ?_
                  refine lv_iload_n hx hb dX8_told_116 rfl (lv_at hl 2 rfl) ?_
                  obtain ⟨v1016, h1017, he⟩ := bn1_i he
                  refine cVir (As := [.int p1]) (rest := []) ⟨hx, hb, hml, hown, hts⟩ hK hA hP hD hS (mX8_isFiles l D k g (s := s) (im := im) (fr := fr) (hd := hd) (nw := nw) (hh := hh) (qs := qs) (qz := qz) (it := it) (th := th) (hm := hm) (ow := ow) (lo := lo) h1017) (cwV 1 hts gX8_told_X8_isFiles rfl rfl rfl kX8_isFiles ⟨Nat.le_of_ble_eq_true rfl, Nat.le_of_ble_eq_true rfl⟩) [0, 1, 2, 3, 4, 5, 6, 7, 8, 9] rfl rfl 0 rfl rfl rfl hl.1 rfl (Nat.le_of_ble_eq_true rfl) ⟨Nat.le_refl 0, Nat.le_refl 0⟩ dX8_told_117 (fun H locs hP hD hS => ?_)
                  refine lv_if_eq (tgt := 131) hx hb dX8_told_120 (by decide) (fun c1018 => ?_) (fun c1018 => ?_)
                  · have he := ifp he c1018
                    refine lv_iconst (v := (-1)) hx hb dX8_told_131 (by decide) ?_
                    obtain rfl := some1 he
                    exact cRi hx hb hr hlk hK rfl hP hD hS dX8_told_132
                  · have he := ifn he c1018
                    refine lv_aload_n hx hb dX8_told_123 rfl (lv_at hl 1 rfl) ?_
                    refine lv_iload_n hx hb dX8_told_124 rfl (lv_at hl 2 rfl) ?_
                    obtain ⟨v1019, h1020, he⟩ := bn1_i he
                    refine cVir (As := [.int p1]) (rest := []) ⟨hx, hb, hml, hown, hts⟩ hK hA hP hD hS (mX8_originOf l D k g (s := s) (im := im) (fr := fr) (hd := hd) (nw := nw) (hh := hh) (qs := qs) (qz := qz) (it := it) (th := th) (hm := hm) (ow := ow) (lo := lo) h1020) (cwV 1 hts gX8_told_X8_originOf rfl rfl rfl kX8_originOf ⟨Nat.le_of_ble_eq_true rfl, Nat.le_of_ble_eq_true rfl⟩) [0, 1, 2, 3, 4, 5, 6, 7, 8, 9] rfl rfl 0 rfl rfl rfl hl.1 rfl (Nat.le_of_ble_eq_true rfl) ⟨Nat.le_refl 0, Nat.le_refl 0⟩ dX8_told_125 (fun H locs hP hD hS => ?_)
                    refine lv_goto (tgt := 132) hx hb dX8_told_128 (by decide) ?_
                    obtain rfl := some1 he
                    exact cRi hx hb hr hlk hK rfl hP hD hS dX8_told_132
                · have he := ifn he c1015
                  by_cases c1021 : p2 = 5
                  · have he := ifp he c1021
                    refine lv_tableIn (off := 107) (tgt := 133) hx hb dX8_told_26 (by rw [c1021]; decide) (by rw [c1021]; decide) (by rw [c1021]; rfl) (by decide) ?_
                    refine lv_aload_n hx hb dX8_told_133 rfl (lv_at hl 1 rfl) ?_
                    refine lv_iload_n hx hb dX8_told_134 rfl (lv_at hl 2 rfl) ?_
                    obtain ⟨v1022, h1023, he⟩ := bn1_i he
                    refine cVir (As := [.int p1]) (rest := []) ⟨hx, hb, hml, hown, hts⟩ hK hA hP hD hS (mX8_nexts l D k g (s := s) (im := im) (fr := fr) (hd := hd) (nw := nw) (hh := hh) (qs := qs) (qz := qz) (it := it) (th := th) (hm := hm) (ow := ow) (lo := lo) h1023) (cwV 1 hts gX8_told_X8_nexts rfl rfl rfl kX8_nexts ⟨Nat.le_of_ble_eq_true rfl, Nat.le_of_ble_eq_true rfl⟩) [0, 1, 2, 3, 4, 5, 6, 7, 8, 9] rfl rfl 0 rfl rfl rfl hl.1 rfl (Nat.le_of_ble_eq_true rfl) ⟨Nat.le_refl 0, Nat.le_refl 0⟩ dX8_told_135 (fun H locs hP hD hS => ?_)
                    obtain rfl := some1 he
                    exact cRi hx hb hr hlk hK rfl hP hD hS dX8_told_138
                  · have he := ifn he c1021
                    by_cases c1024 : p2 = 6
                    · have he := ifp he c1024
                      refine lv_tableIn (off := 113) (tgt := 139) hx hb dX8_told_26 (by rw [c1024]; decide) (by rw [c1024]; decide) (by rw [c1024]; rfl) (by decide) ?_
                      refine lv_aload_n hx hb dX8_told_139 rfl (lv_at hl 1 rfl) ?_
                      refine lv_iload_n hx hb dX8_told_140 rfl (lv_at hl 2 rfl) ?_
                      obtain ⟨v1025, h1026, he⟩ := bn1_i he
                      refine cVir (As := [.int p1]) (rest := []) ⟨hx, hb, hml, hown, hts⟩ hK hA hP hD hS (mX8_heldMany l D k g (s := s) (im := im) (fr := fr) (hd := hd) (nw := nw) (hh := hh) (qs := qs) (qz := qz) (it := it) (th := th) (hm := hm) (ow := ow) (lo := lo) h1026) (cwV 1 hts gX8_told_X8_heldMany rfl rfl rfl kX8_heldMany ⟨Nat.le_of_ble_eq_true rfl, Nat.le_of_ble_eq_true rfl⟩) [0, 1, 2, 3, 4, 5, 6, 7, 8, 9] rfl rfl 0 rfl rfl rfl hl.1 rfl (Nat.le_of_ble_eq_true rfl) ⟨Nat.le_refl 0, Nat.le_refl 0⟩ dX8_told_141 (fun H locs hP hD hS => ?_)
                      obtain rfl := some1 he
                      exact cRi hx hb hr hlk hK rfl hP hD hS dX8_told_144
                    · have he := ifn he c1024
                      by_cases c1027 : p2 = 7
                      · have he := ifp he c1027
                        refine lv_tableIn (off := 119) (tgt := 145) hx hb dX8_told_26 (by rw [c1027]; decide) (by rw [c1027]; decide) (by rw [c1027]; rfl) (by decide) ?_
                        refine lv_aload_n hx hb dX8_told_145 rfl (lv_at hl 1 rfl) ?_
                        refine va_get (D := D) (ci := 8) (v := .ref (g 1)) (C := RX8) (T := TX8) (N := 13) hx hb hts iX8 hown hK hP 0 rfl rfl 1 (by decide) w1 (fun _ h9 => h9) rfl dX8_told_146 ?_
                        refine lv_bipush (v := 102) hx hb dX8_told_149 (by decide) ?_
                        refine lv_iload_n hx hb dX8_told_151 rfl (lv_at hl 2 rfl) ?_
                        refine lv_iadd hx hb dX8_told_152 ?_
                        obtain ⟨h1028, he⟩ := grd_i he
                        refine va_iald hx hb hK hP 1 0 rfl rfl (ix_in h1028) dX8_told_153 ?_
                        obtain rfl := some1 he
                        exact cRi hx hb hr hlk hK rfl hP hD hS dX8_told_154
                      · have he := ifn he c1027
                        by_cases c1029 : p2 = 8
                        · have he := ifp he c1029
                          refine lv_tableIn (off := 129) (tgt := 155) hx hb dX8_told_26 (by rw [c1029]; decide) (by rw [c1029]; decide) (by rw [c1029]; rfl) (by decide) ?_
                          refine lv_aload_n hx hb dX8_told_155 rfl (lv_at hl 1 rfl) ?_
                          refine va_get (D := D) (ci := 8) (v := .ref (g 1)) (C := RX8) (T := TX8) (N := 13) hx hb hts iX8 hown hK hP 0 rfl rfl 1 (by decide) w1 (fun _ h9 => h9) rfl dX8_told_156 ?_
                          refine lv_bipush (v := 82) hx hb dX8_told_159 (by decide) ?_
                          refine lv_iload_n hx hb dX8_told_161 rfl (lv_at hl 2 rfl) ?_
                          refine lv_iadd hx hb dX8_told_162 ?_
                          obtain ⟨h1030, he⟩ := grd_i he
                          refine va_iald hx hb hK hP 1 0 rfl rfl (ix_in h1030) dX8_told_163 ?_
                          obtain rfl := some1 he
                          exact cRi hx hb hr hlk hK rfl hP hD hS dX8_told_164
                        · have he := ifn he c1029
                          have tc1007 : Int32.toInt p2 ≠ 0 := fun z => c1007 (Int32.toInt_inj.mp z)
                          have tc1009 : Int32.toInt p2 ≠ 1 := fun z => c1009 (Int32.toInt_inj.mp z)
                          have tc1011 : Int32.toInt p2 ≠ 2 := fun z => c1011 (Int32.toInt_inj.mp z)
                          have tc1013 : Int32.toInt p2 ≠ 3 := fun z => c1013 (Int32.toInt_inj.mp z)
                          have tc1015 : Int32.toInt p2 ≠ 4 := fun z => c1015 (Int32.toInt_inj.mp z)
                          have tc1021 : Int32.toInt p2 ≠ 5 := fun z => c1021 (Int32.toInt_inj.mp z)
                          have tc1024 : Int32.toInt p2 ≠ 6 := fun z => c1024 (Int32.toInt_inj.mp z)
                          have tc1027 : Int32.toInt p2 ≠ 7 := fun z => c1027 (Int32.toInt_inj.mp z)
                          have tc1029 : Int32.toInt p2 ≠ 8 := fun z => c1029 (Int32.toInt_inj.mp z)
                          refine lv_tableOut (tgt := 165) hx hb dX8_told_26 (by omega) (by decide) ?_
                          refine lv_aload_n hx hb dX8_told_165 rfl (lv_at hl 1 rfl) ?_
                          refine lv_iload_n hx hb dX8_told_166 rfl (lv_at hl 2 rfl) ?_
                          obtain ⟨v1031, h1032, he⟩ := bn1_i he
                          refine cVir (As := [.int p1]) (rest := []) ⟨hx, hb, hml, hown, hts⟩ hK hA hP hD hS (mX8_owned l D k g (s := s) (im := im) (fr := fr) (hd := hd) (nw := nw) (hh := hh) (qs := qs) (qz := qz) (it := it) (th := th) (hm := hm) (ow := ow) (lo := lo) h1032) (cwV 1 hts gX8_told_X8_owned rfl rfl rfl kX8_owned ⟨Nat.le_of_ble_eq_true rfl, Nat.le_of_ble_eq_true rfl⟩) [0, 1, 2, 3, 4, 5, 6, 7, 8, 9] rfl rfl 0 rfl rfl rfl hl.1 rfl (Nat.le_of_ble_eq_true rfl) ⟨Nat.le_refl 0, Nat.le_refl 0⟩ dX8_told_167 (fun H locs hP hD hS => ?_)
                          obtain rfl := some1 he
                          exact cRi hx hb hr hlk hK rfl hP hD hS dX8_told_170
      · have he := ifn he c1006
        refine lv_iload_n hx hb dX8_told_23 rfl (lv_at hl 0 rfl) ?_
        obtain rfl := some1 he
        exact cRi hx hb hr hlk hK rfl hP hD hS dX8_told_24
    · have he := ifp he c1003
      refine lv_bipush (v := (-2)) hx hb dX8_told_10 (by decide) ?_
      obtain rfl := some1 he
      exact cRi hx hb hr hlk hK rfl hP hD hS dX8_told_12
  exact key ss.heap [] rfl rfl hP hS
theorem kX8_slot : yX8_slot.cls = RX8 ∧ yX8_slot.cls ≠ "java/lang/invoke/MethodHandle" ∧ yX8_slot.cls ≠ "java/lang/invoke/VarHandle" ∧ (parseMethodDescriptor yX8_slot.desc).map (fun d => d.parameters.length) = some 2 := by decide +kernel
set_option maxRecDepth 100000 in
set_option maxHeartbeats 4000000 in
theorem mX8_slot (l : Launch) (D : va_G) (k : Nat → ClassId) (g : Nat → Nat) {s : Nat → Int32} {im : Nat → Int32} {fr : Nat → Int32} {hd : Nat → Int32} {nw : Nat → Int32} {hh : Nat → Int32} {qs : Nat → Int32} {qz : Nat → Int32} {it : Nat → Int64} {th : Int32} {hm : Int32} {ow : Int32} {lo : Int32} {p1 : Int32} {p2 : Int32} {r : Int32}  (he : xX8_slot s p1 p2 = some r) : CtI l D k yX8_slot wsX8_slot ({ frames := 5, cells := 0, slots := 0, locals := 107 } : Room) [.ref (g 0), .int p1, .int p2] (wModel k g s im fr hd nw hh qs qz it th hm ow lo) r (wModel k g s im fr hd nw hh qs qz it th hm ow lo) := by
  intro sz9
  refine cSt (lv := [(0, .ref (g 0)), (1, .int p1), (2, .int p2)]) (own := RX8) (cc := cX8_slot) (nL := 4) (ret := (some .int)) (by decide +kernel) rfl rfl (Nat.le_of_ble_eq_true rfl) rfl ?_
  intro pp ee ss mm bl me co hsz hC0 hP hD hS ls hl
  subst hsz
  obtain ⟨hx, hb, hr, hml, hown, hts, hK, hlk⟩ := hC0
  have hA : ∀ q, ss.heap.size ≤ q → va_A (wModel k g s im fr hd nw hh qs qz it th hm ow lo) ss.heap.size q := fun q h => Or.inr h
  have iX8 : ∀ w ∈ wsX80, w ∈ wsX8_slot := fun _ h => List.mem_cons_of_mem _ (List.mem_append_right _ h)
  have w1 := hts (.fieldLink RX8 7 "DeadListPoolModel" "s" "[I") (List.mem_of_getElem? (i := 1) rfl)
  have hS0 := hS
  have key : ∀ (H : Heap) (locs : List Loc), H = ss.heap → locs = [] → va_P D vwCl (wModel k g s im fr hd nw hh qs qz it th hm ow lo) H → va_S (va_A (wModel k g s im fr hd nw hh qs qz it th hm ow lo) ss.heap.size) ss.heap H locs → W pp l ee ({ frames := 5, cells := 0, slots := 0, locals := 107 } : Room) ss mm ([.ref (g 0), .int p1, .int p2] : List Value).toArray bl me co H locs 0 0 (MQ bl (cQi D k (wModel k g s im fr hd nw hh qs qz it th hm ow lo) ss.heap.size r (wModel k g s im fr hd nw hh qs qz it th hm ow lo)) ([.ref (g 0), .int p1, .int p2] : List Value).toArray ss 0 0 (va_A (wModel k g s im fr hd nw hh qs qz it th hm ow lo) ss.heap.size)) (F0 mm 0 ls []) := by
    intro H locs _ _ hP hS
    refine lv_iload_n hx hb dX8_slot_0 rfl (lv_at hl 2 rfl) ?_
    refine lv_iconst (v := 0) hx hb dX8_slot_1 (by decide) ?_
    refine lv_bipush (v := 11) hx hb dX8_slot_2 (by decide) ?_
    obtain ⟨v1001, h1002, he⟩ := bn1_i he
    refine cSi (rest := []) ⟨hx, hb, hml, hown, hts⟩ hK hA hP hD hS (mX8_in l D k h1002) (cwS 3 hts gX8_slot_X8_in rfl rfl rfl kX8_in ⟨Nat.le_of_ble_eq_true rfl, Nat.le_of_ble_eq_true rfl⟩) rfl hl.1 rfl (Nat.le_of_ble_eq_true rfl) ⟨Nat.le_refl 0, Nat.le_refl 0⟩ dX8_slot_4 (fun H locs hP hD hS => ?_)
    refine lv_if_ne (tgt := 13) hx hb dX8_slot_7 (by decide) (fun c1003 => ?_) (fun c1003 => ?_)
    · have he := ifn he c1003
      refine lv_aload_n hx hb dX8_slot_13 rfl (lv_at hl 0 rfl) ?_
      refine lv_iload_n hx hb dX8_slot_14 rfl (lv_at hl 1 rfl) ?_
      obtain ⟨v1004, h1005, he⟩ := bn1_i he
      refine cVir (As := [.int p1]) (rest := []) ⟨hx, hb, hml, hown, hts⟩ hK hA hP hD hS (mX8_askedSlots l D k g (s := s) (im := im) (fr := fr) (hd := hd) (nw := nw) (hh := hh) (qs := qs) (qz := qz) (it := it) (th := th) (hm := hm) (ow := ow) (lo := lo) h1005) (cwV 1 hts gX8_slot_X8_askedSlots rfl rfl rfl kX8_askedSlots ⟨Nat.le_of_ble_eq_true rfl, Nat.le_of_ble_eq_true rfl⟩) [0, 1, 2, 3, 4, 5, 6, 7, 8, 9] rfl rfl 0 rfl rfl rfl hl.1 rfl (Nat.le_of_ble_eq_true rfl) ⟨Nat.le_refl 0, Nat.le_refl 0⟩ dX8_slot_15 (fun H locs hP hD hS => ?_)
      refine lv_istore_n (lv' := [(3, .int v1004), (0, .ref (g 0)), (1, .int p1), (2, .int p2)]) hx hb dX8_slot_18 rfl hl (by decide) rfl (fun ls hl => ?_)
      refine lv_iload_n hx hb dX8_slot_19 rfl (lv_at hl 0 rfl) ?_
      refine lv_if_eq (tgt := 27) hx hb dX8_slot_20 (by decide) (fun c1006 => ?_) (fun c1006 => ?_)
      · have he := ifp he c1006
        refine lv_aload_n hx hb dX8_slot_27 rfl (lv_at hl 1 rfl) ?_
        refine va_get (D := D) (ci := 8) (v := .ref (g 1)) (C := RX8) (T := TX8) (N := 13) hx hb hts iX8 hown hK hP 0 rfl rfl 1 (by decide) w1 (fun _ h9 => h9) rfl dX8_slot_28 ?_
        refine lv_bipush (v := 122) hx hb dX8_slot_31 (by decide) ?_
        refine lv_bipush (v := 12) hx hb dX8_slot_33 (by decide) ?_
        refine lv_iload_n hx hb dX8_slot_35 rfl (lv_at hl 2 rfl) ?_
        refine lv_imul hx hb dX8_slot_36 ?_
        refine lv_iadd hx hb dX8_slot_37 ?_
        refine lv_iload_n hx hb dX8_slot_38 rfl (lv_at hl 3 rfl) ?_
        refine lv_iadd hx hb dX8_slot_39 ?_
        obtain ⟨h1007, he⟩ := grd_i he
        refine va_iald hx hb hK hP 1 0 rfl rfl (ix_in h1007) dX8_slot_40 ?_
        obtain rfl := some1 he
        exact cRi hx hb hr hlk hK rfl hP hD hS dX8_slot_41
      · have he := ifn he c1006
        refine lv_iload_n hx hb dX8_slot_23 rfl (lv_at hl 0 rfl) ?_
        refine lv_goto (tgt := 41) hx hb dX8_slot_24 (by decide) ?_
        obtain rfl := some1 he
        exact cRi hx hb hr hlk hK rfl hP hD hS dX8_slot_41
    · have he := ifp he c1003
      refine lv_bipush (v := (-2)) hx hb dX8_slot_10 (by decide) ?_
      obtain rfl := some1 he
      exact cRi hx hb hr hlk hK rfl hP hD hS dX8_slot_12
  exact key ss.heap [] rfl rfl hP hS
theorem kX8_block : yX8_block.cls = RX8 ∧ yX8_block.cls ≠ "java/lang/invoke/MethodHandle" ∧ yX8_block.cls ≠ "java/lang/invoke/VarHandle" ∧ (parseMethodDescriptor yX8_block.desc).map (fun d => d.parameters.length) = some 2 := by decide +kernel
set_option maxRecDepth 100000 in
set_option maxHeartbeats 4000000 in
theorem mX8_block (l : Launch) (D : va_G) (k : Nat → ClassId) (g : Nat → Nat) {s : Nat → Int32} {im : Nat → Int32} {fr : Nat → Int32} {hd_0 : Nat → Int32} {nw : Nat → Int32} {hh : Nat → Int32} {qs : Nat → Int32} {qz : Nat → Int32} {it : Nat → Int64} {th : Int32} {hm : Int32} {ow : Int32} {lo : Int32} {p1 : Int32} {p2 : Int32} {r : Int32} {hd' : Nat → Int32} (he : xX8_block s hd_0 p1 p2 = some (r, hd')) : CtI l D k yX8_block wsX8_block ({ frames := 5, cells := 0, slots := 0, locals := 108 } : Room) [.ref (g 0), .int p1, .int p2] (wModel k g s im fr hd_0 nw hh qs qz it th hm ow lo) r (wModel k g s im fr hd' nw hh qs qz it th hm ow lo) := by
  intro sz9
  refine cSt (lv := [(0, .ref (g 0)), (1, .int p1), (2, .int p2)]) (own := RX8) (cc := cX8_block) (nL := 3) (ret := (some .int)) (by decide +kernel) rfl rfl (Nat.le_of_ble_eq_true rfl) rfl ?_
  intro pp ee ss mm bl me co hsz hC0 hP hD hS ls hl
  subst hsz
  obtain ⟨hx, hb, hr, hml, hown, hts, hK, hlk⟩ := hC0
  have hA : ∀ q, ss.heap.size ≤ q → va_A (wModel k g s im fr hd_0 nw hh qs qz it th hm ow lo) ss.heap.size q := fun q h => Or.inr h
  have iX8 : ∀ w ∈ wsX80, w ∈ wsX8_block := fun _ h => List.mem_cons_of_mem _ (List.mem_append_right _ h)
  have w1 := hts (.fieldLink RX8 7 "DeadListPoolModel" "s" "[I") (List.mem_of_getElem? (i := 1) rfl)
  have w2 := hts (.fieldLink RX8 19 "DeadListPoolModel" "holds" "[I") (List.mem_of_getElem? (i := 2) rfl)
  have hS0 := hS
  have key : ∀ (H : Heap) (locs : List Loc), H = ss.heap → locs = [] → va_P D vwCl (wModel k g s im fr hd_0 nw hh qs qz it th hm ow lo) H → va_S (va_A (wModel k g s im fr hd_0 nw hh qs qz it th hm ow lo) ss.heap.size) ss.heap H locs → W pp l ee ({ frames := 5, cells := 0, slots := 0, locals := 108 } : Room) ss mm ([.ref (g 0), .int p1, .int p2] : List Value).toArray bl me co H locs 0 0 (MQ bl (cQi D k (wModel k g s im fr hd_0 nw hh qs qz it th hm ow lo) ss.heap.size r (wModel k g s im fr hd' nw hh qs qz it th hm ow lo)) ([.ref (g 0), .int p1, .int p2] : List Value).toArray ss 0 0 (va_A (wModel k g s im fr hd_0 nw hh qs qz it th hm ow lo) ss.heap.size)) (F0 mm 0 ls []) := by
    intro H locs _ _ hP hS
    refine lv_iload_n hx hb dX8_block_0 rfl (lv_at hl 2 rfl) ?_
    refine lv_iconst (v := 0) hx hb dX8_block_1 (by decide) ?_
    refine lv_iconst (v := 2) hx hb dX8_block_2 (by decide) ?_
    obtain ⟨v1001, h1002, he⟩ := bn1_i he
    refine cSi (rest := []) ⟨hx, hb, hml, hown, hts⟩ hK hA hP hD hS (mX8_in l D k h1002) (cwS 3 hts gX8_block_X8_in rfl rfl rfl kX8_in ⟨Nat.le_of_ble_eq_true rfl, Nat.le_of_ble_eq_true rfl⟩) rfl hl.1 rfl (Nat.le_of_ble_eq_true rfl) ⟨Nat.le_refl 0, Nat.le_refl 0⟩ dX8_block_3 (fun H locs hP hD hS => ?_)
    refine lv_if_ne (tgt := 12) hx hb dX8_block_6 (by decide) (fun c1003 => ?_) (fun c1003 => ?_)
    · have he := ifn he c1003
      refine lv_iload_n hx hb dX8_block_12 rfl (lv_at hl 1 rfl) ?_
      refine lv_iconst (v := 0) hx hb dX8_block_13 (by decide) ?_
      refine lv_bipush (v := 95) hx hb dX8_block_14 (by decide) ?_
      obtain ⟨v1004, h1005, he⟩ := bn1_i he
      refine cSi (rest := []) ⟨hx, hb, hml, hown, hts⟩ hK hA hP hD hS (mX8_in l D k h1005) (cwS 3 hts gX8_block_X8_in rfl rfl rfl kX8_in ⟨Nat.le_of_ble_eq_true rfl, Nat.le_of_ble_eq_true rfl⟩) rfl hl.1 rfl (Nat.le_of_ble_eq_true rfl) ⟨Nat.le_refl 0, Nat.le_refl 0⟩ dX8_block_16 (fun H locs hP hD hS => ?_)
      refine lv_if_ne (tgt := 25) hx hb dX8_block_19 (by decide) (fun c1006 => ?_) (fun c1006 => ?_)
      · have he := ifn he c1006
        refine lv_aload_n hx hb dX8_block_25 rfl (lv_at hl 0 rfl) ?_
        refine va_get (D := D) (ci := 8) (v := .ref (g 1)) (C := RX8) (T := TX8) (N := 13) hx hb hts iX8 hown hK hP 0 rfl rfl 1 (by decide) w1 (fun _ h9 => h9) rfl dX8_block_26 ?_
        refine lv_sipush (v := 362) hx hb dX8_block_29 (by decide) ?_
        refine lv_iload_n hx hb dX8_block_32 rfl (lv_at hl 1 rfl) ?_
        refine lv_iadd hx hb dX8_block_33 ?_
        obtain ⟨h1007, he⟩ := grd_i he
        refine va_iald hx hb hK hP 1 0 rfl rfl (ix_in h1007) dX8_block_34 ?_
        refine lv_if_ne (tgt := 41) hx hb dX8_block_35 (by decide) (fun c1008 => ?_) (fun c1008 => ?_)
        · have he := ifn he c1008
          refine lv_aload_n hx hb dX8_block_41 rfl (lv_at hl 0 rfl) ?_
          obtain ⟨hd1009, h1010, he⟩ := bn1_i he
          refine cVv (wf := (wModel k g s im fr hd1009 nw hh qs qz it th hm ow lo)) (As := []) (rest := []) ⟨hx, hb, hml, hown, hts⟩ hK hA hP hD hS (mX8_counts l D k g (s := s) (im := im) (fr := fr) (hd_0 := hd_0) (nw := nw) (hh := hh) (qs := qs) (qz := qz) (it := it) (th := th) (hm := hm) (ow := ow) (lo := lo) h1010) (cwV 0 hts gX8_block_X8_counts rfl rfl rfl kX8_counts ⟨Nat.le_of_ble_eq_true rfl, Nat.le_of_ble_eq_true rfl⟩) [0, 1, 2, 3, 4, 5, 6, 7, 8, 9] rfl rfl rfl [false, false, false, false, false, false, false, false, false, false] trivial 10 rfl (by decide +kernel) rfl 0 rfl rfl rfl hl.1 rfl (Nat.le_of_ble_eq_true rfl) ⟨Nat.le_refl 0, Nat.le_refl 0⟩ dX8_block_42 (fun H locs hP hD hS => ?_)
          refine lv_iload_n hx hb dX8_block_45 rfl (lv_at hl 2 rfl) ?_
          refine lv_if_ne (tgt := 62) hx hb dX8_block_46 (by decide) (fun c1011 => ?_) (fun c1011 => ?_)
          · have he := ifn he c1011
            refine lv_iload_n hx hb dX8_block_62 rfl (lv_at hl 2 rfl) ?_
            refine lv_iconst (v := 1) hx hb dX8_block_63 (by decide) ?_
            refine lv_icmp_ne (tgt := 80) hx hb dX8_block_64 (by decide) (fun c1012 => ?_) (fun c1012 => ?_)
            · have he := ifn he c1012
              refine lv_aload_n hx hb dX8_block_80 rfl (lv_at hl 0 rfl) ?_
              refine va_get (D := D) (ci := 8) (v := .ref (g 4)) (C := RX8) (T := TX8) (N := 13) hx hb hts iX8 hown hK hP 0 rfl rfl 5 (by decide) w2 (fun _ h9 => h9) rfl dX8_block_81 ?_
              refine lv_iload_n hx hb dX8_block_84 rfl (lv_at hl 1 rfl) ?_
              obtain ⟨h1013, he⟩ := grd_i he
              refine va_iald hx hb hK hP 4 0 rfl rfl (ix_in h1013) dX8_block_85 ?_
              obtain ⟨rfl, rfl⟩ := some2 he
              exact cRi hx hb hr hlk hK rfl hP hD hS dX8_block_86
            · have he := ifp he c1012
              refine lv_aload_n hx hb dX8_block_67 rfl (lv_at hl 0 rfl) ?_
              refine va_get (D := D) (ci := 8) (v := .ref (g 1)) (C := RX8) (T := TX8) (N := 13) hx hb hts iX8 hown hK hP 0 rfl rfl 1 (by decide) w1 (fun _ h9 => h9) rfl dX8_block_68 ?_
              refine lv_sipush (v := 458) hx hb dX8_block_71 (by decide) ?_
              refine lv_iload_n hx hb dX8_block_74 rfl (lv_at hl 1 rfl) ?_
              refine lv_iadd hx hb dX8_block_75 ?_
              obtain ⟨h1014, he⟩ := grd_i he
              refine va_iald hx hb hK hP 1 0 rfl rfl (ix_in h1014) dX8_block_76 ?_
              refine lv_goto (tgt := 86) hx hb dX8_block_77 (by decide) ?_
              obtain ⟨rfl, rfl⟩ := some2 he
              exact cRi hx hb hr hlk hK rfl hP hD hS dX8_block_86
          · have he := ifp he c1011
            refine lv_aload_n hx hb dX8_block_49 rfl (lv_at hl 0 rfl) ?_
            refine va_get (D := D) (ci := 8) (v := .ref (g 1)) (C := RX8) (T := TX8) (N := 13) hx hb hts iX8 hown hK hP 0 rfl rfl 1 (by decide) w1 (fun _ h9 => h9) rfl dX8_block_50 ?_
            refine lv_sipush (v := 362) hx hb dX8_block_53 (by decide) ?_
            refine lv_iload_n hx hb dX8_block_56 rfl (lv_at hl 1 rfl) ?_
            refine lv_iadd hx hb dX8_block_57 ?_
            obtain ⟨h1015, he⟩ := grd_i he
            refine va_iald hx hb hK hP 1 0 rfl rfl (ix_in h1015) dX8_block_58 ?_
            refine lv_goto (tgt := 86) hx hb dX8_block_59 (by decide) ?_
            obtain ⟨rfl, rfl⟩ := some2 he
            exact cRi hx hb hr hlk hK rfl hP hD hS dX8_block_86
        · have he := ifp he c1008
          refine lv_bipush (v := (-11)) hx hb dX8_block_38 (by decide) ?_
          obtain ⟨rfl, rfl⟩ := some2 he
          exact cRi hx hb hr hlk hK rfl hP hD hS dX8_block_40
      · have he := ifp he c1006
        refine lv_bipush (v := (-12)) hx hb dX8_block_22 (by decide) ?_
        obtain ⟨rfl, rfl⟩ := some2 he
        exact cRi hx hb hr hlk hK rfl hP hD hS dX8_block_24
    · have he := ifp he c1003
      refine lv_bipush (v := (-2)) hx hb dX8_block_9 (by decide) ?_
      obtain ⟨rfl, rfl⟩ := some2 he
      exact cRi hx hb hr hlk hK rfl hP hD hS dX8_block_11
  exact key ss.heap [] rfl rfl hP hS
theorem kX8_taken : yX8_taken.cls = RX8 ∧ yX8_taken.cls ≠ "java/lang/invoke/MethodHandle" ∧ yX8_taken.cls ≠ "java/lang/invoke/VarHandle" ∧ (parseMethodDescriptor yX8_taken.desc).map (fun d => d.parameters.length) = some 2 := by decide +kernel
set_option maxRecDepth 100000 in
set_option maxHeartbeats 4000000 in
theorem mX8_taken (l : Launch) (D : va_G) (k : Nat → ClassId) (g : Nat → Nat) {s : Nat → Int32} {im : Nat → Int32} {fr : Nat → Int32} {hd : Nat → Int32} {nw : Nat → Int32} {hh : Nat → Int32} {qs : Nat → Int32} {qz : Nat → Int32} {it : Nat → Int64} {th : Int32} {hm : Int32} {ow : Int32} {lo : Int32} {p1 : Int32} {p2 : Int32} {r : Int32}  (he : xX8_taken s p1 p2 = some r) : CtI l D k yX8_taken wsX8_taken ({ frames := 4, cells := 0, slots := 0, locals := 87 } : Room) [.ref (g 0), .int p1, .int p2] (wModel k g s im fr hd nw hh qs qz it th hm ow lo) r (wModel k g s im fr hd nw hh qs qz it th hm ow lo) := by
  intro sz9
  refine cSt (lv := [(0, .ref (g 0)), (1, .int p1), (2, .int p2)]) (own := RX8) (cc := cX8_taken) (nL := 4) (ret := (some .int)) (by decide +kernel) rfl rfl (Nat.le_of_ble_eq_true rfl) rfl ?_
  intro pp ee ss mm bl me co hsz hC0 hP hD hS ls hl
  subst hsz
  obtain ⟨hx, hb, hr, hml, hown, hts, hK, hlk⟩ := hC0
  have hA : ∀ q, ss.heap.size ≤ q → va_A (wModel k g s im fr hd nw hh qs qz it th hm ow lo) ss.heap.size q := fun q h => Or.inr h
  have iX8 : ∀ w ∈ wsX80, w ∈ wsX8_taken := fun _ h => List.mem_cons_of_mem _ (List.mem_append_right _ h)
  have w1 := hts (.fieldLink RX8 7 "DeadListPoolModel" "s" "[I") (List.mem_of_getElem? (i := 1) rfl)
  have hS0 := hS
  have key : ∀ (H : Heap) (locs : List Loc), H = ss.heap → locs = [] → va_P D vwCl (wModel k g s im fr hd nw hh qs qz it th hm ow lo) H → va_S (va_A (wModel k g s im fr hd nw hh qs qz it th hm ow lo) ss.heap.size) ss.heap H locs → W pp l ee ({ frames := 4, cells := 0, slots := 0, locals := 87 } : Room) ss mm ([.ref (g 0), .int p1, .int p2] : List Value).toArray bl me co H locs 0 0 (MQ bl (cQi D k (wModel k g s im fr hd nw hh qs qz it th hm ow lo) ss.heap.size r (wModel k g s im fr hd nw hh qs qz it th hm ow lo)) ([.ref (g 0), .int p1, .int p2] : List Value).toArray ss 0 0 (va_A (wModel k g s im fr hd nw hh qs qz it th hm ow lo) ss.heap.size)) (F0 mm 0 ls []) := by
    intro H locs _ _ hP hS
    refine lv_iload_n hx hb dX8_taken_0 rfl (lv_at hl 2 rfl) ?_
    refine lv_iconst (v := 0) hx hb dX8_taken_1 (by decide) ?_
    refine lv_iconst (v := 4) hx hb dX8_taken_2 (by decide) ?_
    obtain ⟨v1001, h1002, he⟩ := bn1_i he
    refine cSi (rest := []) ⟨hx, hb, hml, hown, hts⟩ hK hA hP hD hS (mX8_in l D k h1002) (cwS 3 hts gX8_taken_X8_in rfl rfl rfl kX8_in ⟨Nat.le_of_ble_eq_true rfl, Nat.le_of_ble_eq_true rfl⟩) rfl hl.1 rfl (Nat.le_of_ble_eq_true rfl) ⟨Nat.le_refl 0, Nat.le_refl 0⟩ dX8_taken_3 (fun H locs hP hD hS => ?_)
    refine lv_if_ne (tgt := 12) hx hb dX8_taken_6 (by decide) (fun c1003 => ?_) (fun c1003 => ?_)
    · have he := ifn he c1003
      refine lv_aload_n hx hb dX8_taken_12 rfl (lv_at hl 0 rfl) ?_
      refine lv_iload_n hx hb dX8_taken_13 rfl (lv_at hl 1 rfl) ?_
      refine lv_iload_n hx hb dX8_taken_14 rfl (lv_at hl 2 rfl) ?_
      obtain ⟨v1004, h1005, he⟩ := bn1_i he
      refine cVir (As := [.int p1, .int p2]) (rest := []) ⟨hx, hb, hml, hown, hts⟩ hK hA hP hD hS (mX8_asked l D k g (s := s) (im := im) (fr := fr) (hd := hd) (nw := nw) (hh := hh) (qs := qs) (qz := qz) (it := it) (th := th) (hm := hm) (ow := ow) (lo := lo) h1005) (cwV 2 hts gX8_taken_X8_asked rfl rfl rfl kX8_asked ⟨Nat.le_of_ble_eq_true rfl, Nat.le_of_ble_eq_true rfl⟩) [0, 1, 2, 3, 4, 5, 6, 7, 8, 9] rfl rfl 0 rfl rfl rfl hl.1 rfl (Nat.le_of_ble_eq_true rfl) ⟨Nat.le_refl 0, Nat.le_refl 0⟩ dX8_taken_15 (fun H locs hP hD hS => ?_)
      refine lv_istore_n (lv' := [(3, .int v1004), (0, .ref (g 0)), (1, .int p1), (2, .int p2)]) hx hb dX8_taken_18 rfl hl (by decide) rfl (fun ls hl => ?_)
      refine lv_iload_n hx hb dX8_taken_19 rfl (lv_at hl 0 rfl) ?_
      refine lv_if_eq (tgt := 27) hx hb dX8_taken_20 (by decide) (fun c1006 => ?_) (fun c1006 => ?_)
      · have he := ifp he c1006
        refine lv_aload_n hx hb dX8_taken_27 rfl (lv_at hl 1 rfl) ?_
        refine va_get (D := D) (ci := 8) (v := .ref (g 1)) (C := RX8) (T := TX8) (N := 13) hx hb hts iX8 hown hK hP 0 rfl rfl 1 (by decide) w1 (fun _ h9 => h9) rfl dX8_taken_28 ?_
        refine lv_bipush (v := 22) hx hb dX8_taken_31 (by decide) ?_
        refine lv_iload_n hx hb dX8_taken_33 rfl (lv_at hl 2 rfl) ?_
        refine lv_iadd hx hb dX8_taken_34 ?_
        obtain ⟨h1007, he⟩ := grd_i he
        refine va_iald hx hb hK hP 1 0 rfl rfl (ix_in h1007) dX8_taken_35 ?_
        obtain rfl := some1 he
        exact cRi hx hb hr hlk hK rfl hP hD hS dX8_taken_36
      · have he := ifn he c1006
        refine lv_iload_n hx hb dX8_taken_23 rfl (lv_at hl 0 rfl) ?_
        refine lv_goto (tgt := 36) hx hb dX8_taken_24 (by decide) ?_
        obtain rfl := some1 he
        exact cRi hx hb hr hlk hK rfl hP hD hS dX8_taken_36
    · have he := ifp he c1003
      refine lv_bipush (v := (-2)) hx hb dX8_taken_9 (by decide) ?_
      obtain rfl := some1 he
      exact cRi hx hb hr hlk hK rfl hP hD hS dX8_taken_11
  exact key ss.heap [] rfl rfl hP hS
theorem kX8_isDead : yX8_isDead.cls = RX8 ∧ yX8_isDead.cls ≠ "java/lang/invoke/MethodHandle" ∧ yX8_isDead.cls ≠ "java/lang/invoke/VarHandle" ∧ (parseMethodDescriptor yX8_isDead.desc).map (fun d => d.parameters.length) = some 2 := by decide +kernel
set_option maxRecDepth 100000 in
set_option maxHeartbeats 4000000 in
theorem mX8_isDead (l : Launch) (D : va_G) (k : Nat → ClassId) (g : Nat → Nat) {s : Nat → Int32} {im : Nat → Int32} {fr : Nat → Int32} {hd : Nat → Int32} {nw : Nat → Int32} {hh : Nat → Int32} {qs : Nat → Int32} {qz : Nat → Int32} {it : Nat → Int64} {th : Int32} {hm : Int32} {ow : Int32} {lo : Int32} {p1 : Int32} {p2 : Int32} {r : Int32}  (he : xX8_isDead s p1 p2 = some r) : CtI l D k yX8_isDead wsX8_isDead ({ frames := 5, cells := 0, slots := 0, locals := 109 } : Room) [.ref (g 0), .int p1, .int p2] (wModel k g s im fr hd nw hh qs qz it th hm ow lo) r (wModel k g s im fr hd nw hh qs qz it th hm ow lo) := by
  intro sz9
  refine cSt (lv := [(0, .ref (g 0)), (1, .int p1), (2, .int p2)]) (own := RX8) (cc := cX8_isDead) (nL := 3) (ret := (some .boolean)) (by decide +kernel) rfl rfl (Nat.le_of_ble_eq_true rfl) rfl ?_
  intro pp ee ss mm bl me co hsz hC0 hP hD hS ls hl
  subst hsz
  obtain ⟨hx, hb, hr, hml, hown, hts, hK, hlk⟩ := hC0
  have hA : ∀ q, ss.heap.size ≤ q → va_A (wModel k g s im fr hd nw hh qs qz it th hm ow lo) ss.heap.size q := fun q h => Or.inr h
  have iX8 : ∀ w ∈ wsX80, w ∈ wsX8_isDead := fun _ h => List.mem_cons_of_mem _ (List.mem_append_right _ h)
  have w1 := hts (.fieldLink RX8 7 "DeadListPoolModel" "s" "[I") (List.mem_of_getElem? (i := 1) rfl)
  have hS0 := hS
  have key : ∀ (H : Heap) (locs : List Loc), H = ss.heap → locs = [] → va_P D vwCl (wModel k g s im fr hd nw hh qs qz it th hm ow lo) H → va_S (va_A (wModel k g s im fr hd nw hh qs qz it th hm ow lo) ss.heap.size) ss.heap H locs → W pp l ee ({ frames := 5, cells := 0, slots := 0, locals := 109 } : Room) ss mm ([.ref (g 0), .int p1, .int p2] : List Value).toArray bl me co H locs 0 0 (MQ bl (cQi D k (wModel k g s im fr hd nw hh qs qz it th hm ow lo) ss.heap.size r (wModel k g s im fr hd nw hh qs qz it th hm ow lo)) ([.ref (g 0), .int p1, .int p2] : List Value).toArray ss 0 0 (va_A (wModel k g s im fr hd nw hh qs qz it th hm ow lo) ss.heap.size)) (F0 mm 0 ls []) := by
    intro H locs _ _ hP hS
    refine lv_aload_n hx hb dX8_isDead_0 rfl (lv_at hl 0 rfl) ?_
    refine va_get (D := D) (ci := 8) (v := .ref (g 1)) (C := RX8) (T := TX8) (N := 13) hx hb hts iX8 hown hK hP 0 rfl rfl 1 (by decide) w1 (fun _ h9 => h9) rfl dX8_isDead_1 ?_
    refine lv_bipush (v := 42) hx hb dX8_isDead_4 (by decide) ?_
    refine lv_iload_n hx hb dX8_isDead_6 rfl (lv_at hl 1 rfl) ?_
    refine lv_iadd hx hb dX8_isDead_7 ?_
    obtain ⟨h1001, he⟩ := grd_i he
    refine va_iald hx hb hK hP 1 0 rfl rfl (ix_in h1001) dX8_isDead_8 ?_
    refine lv_iconst (v := (-1)) hx hb dX8_isDead_9 (by decide) ?_
    refine lv_icmp_eq (tgt := 43) hx hb dX8_isDead_10 (by decide) (fun c1002 => ?_) (fun c1002 => ?_)
    · have he := ifp he c1002
      refine lv_iconst (v := 0) hx hb dX8_isDead_43 (by decide) ?_
      obtain rfl := some1 he
      exact cRi hx hb hr hlk hK rfl hP hD hS dX8_isDead_44
    · have he := ifn he c1002
      refine lv_aload_n hx hb dX8_isDead_13 rfl (lv_at hl 0 rfl) ?_
      refine lv_aload_n hx hb dX8_isDead_14 rfl (lv_at hl 0 rfl) ?_
      refine va_get (D := D) (ci := 8) (v := .ref (g 1)) (C := RX8) (T := TX8) (N := 13) hx hb hts iX8 hown hK hP 0 rfl rfl 1 (by decide) w1 (fun _ h9 => h9) rfl dX8_isDead_15 ?_
      refine lv_bipush (v := 42) hx hb dX8_isDead_18 (by decide) ?_
      refine lv_iload_n hx hb dX8_isDead_20 rfl (lv_at hl 1 rfl) ?_
      refine lv_iadd hx hb dX8_isDead_21 ?_
      obtain ⟨h1003, he⟩ := grd_i he
      refine va_iald hx hb hK hP 1 0 rfl rfl (ix_in h1003) dX8_isDead_22 ?_
      refine lv_iload_n hx hb dX8_isDead_23 rfl (lv_at hl 2 rfl) ?_
      obtain ⟨v1004, h1005, he⟩ := bn1_i he
      refine cVir (As := [.int (s (Int32.toNatClampNeg (42 + p1))), .int p2]) (rest := []) ⟨hx, hb, hml, hown, hts⟩ hK hA hP hD hS (mX8_isHeld l D k g (s := s) (im := im) (fr := fr) (hd := hd) (nw := nw) (hh := hh) (qs := qs) (qz := qz) (it := it) (th := th) (hm := hm) (ow := ow) (lo := lo) h1005) (cwV 2 hts gX8_isDead_X8_isHeld rfl rfl rfl kX8_isHeld ⟨Nat.le_of_ble_eq_true rfl, Nat.le_of_ble_eq_true rfl⟩) [0, 1, 2, 3, 4, 5, 6, 7, 8, 9] rfl rfl 0 rfl rfl rfl hl.1 rfl (Nat.le_of_ble_eq_true rfl) ⟨Nat.le_refl 0, Nat.le_refl 0⟩ dX8_isDead_24 (fun H locs hP hD hS => ?_)
      refine lv_if_eq (tgt := 43) hx hb dX8_isDead_27 (by decide) (fun c1006 => ?_) (fun c1006 => ?_)
      · have he := ifp he c1006
        refine lv_iconst (v := 0) hx hb dX8_isDead_43 (by decide) ?_
        obtain rfl := some1 he
        exact cRi hx hb hr hlk hK rfl hP hD hS dX8_isDead_44
      · have he := ifn he c1006
        refine lv_aload_n hx hb dX8_isDead_30 rfl (lv_at hl 0 rfl) ?_
        refine lv_iload_n hx hb dX8_isDead_31 rfl (lv_at hl 1 rfl) ?_
        refine lv_iload_n hx hb dX8_isDead_32 rfl (lv_at hl 2 rfl) ?_
        obtain ⟨v1007, h1008, he⟩ := bn1_i he
        refine cVir (As := [.int p1, .int p2]) (rest := []) ⟨hx, hb, hml, hown, hts⟩ hK hA hP hD hS (mX8_isHeld l D k g (s := s) (im := im) (fr := fr) (hd := hd) (nw := nw) (hh := hh) (qs := qs) (qz := qz) (it := it) (th := th) (hm := hm) (ow := ow) (lo := lo) h1008) (cwV 2 hts gX8_isDead_X8_isHeld rfl rfl rfl kX8_isHeld ⟨Nat.le_of_ble_eq_true rfl, Nat.le_of_ble_eq_true rfl⟩) [0, 1, 2, 3, 4, 5, 6, 7, 8, 9] rfl rfl 0 rfl rfl rfl hl.1 rfl (Nat.le_of_ble_eq_true rfl) ⟨Nat.le_refl 0, Nat.le_refl 0⟩ dX8_isDead_33 (fun H locs hP hD hS => ?_)
        refine lv_if_ne (tgt := 43) hx hb dX8_isDead_36 (by decide) (fun c1009 => ?_) (fun c1009 => ?_)
        · have he := ifn he c1009
          refine lv_iconst (v := 0) hx hb dX8_isDead_43 (by decide) ?_
          obtain rfl := some1 he
          exact cRi hx hb hr hlk hK rfl hP hD hS dX8_isDead_44
        · have he := ifp he c1009
          refine lv_iconst (v := 1) hx hb dX8_isDead_39 (by decide) ?_
          refine lv_goto (tgt := 44) hx hb dX8_isDead_40 (by decide) ?_
          obtain rfl := some1 he
          exact cRi hx hb hr hlk hK rfl hP hD hS dX8_isDead_44
  exact key ss.heap [] rfl rfl hP hS
theorem kX8_dead : yX8_dead.cls = RX8 ∧ yX8_dead.cls ≠ "java/lang/invoke/MethodHandle" ∧ yX8_dead.cls ≠ "java/lang/invoke/VarHandle" ∧ (parseMethodDescriptor yX8_dead.desc).map (fun d => d.parameters.length) = some 2 := by decide +kernel
set_option maxRecDepth 100000 in
set_option maxHeartbeats 4000000 in
theorem mX8_dead (l : Launch) (D : va_G) (k : Nat → ClassId) (g : Nat → Nat) {s : Nat → Int32} {im : Nat → Int32} {fr : Nat → Int32} {hd : Nat → Int32} {nw : Nat → Int32} {hh : Nat → Int32} {qs : Nat → Int32} {qz : Nat → Int32} {it : Nat → Int64} {th : Int32} {hm : Int32} {ow : Int32} {lo : Int32} {p1 : Int32} {p2 : Int32} {r : Int32}  (he : xX8_dead s p1 p2 = some r) : CtI l D k yX8_dead wsX8_dead ({ frames := 6, cells := 0, slots := 0, locals := 131 } : Room) [.ref (g 0), .int p1, .int p2] (wModel k g s im fr hd nw hh qs qz it th hm ow lo) r (wModel k g s im fr hd nw hh qs qz it th hm ow lo) := by
  intro sz9
  refine cSt (lv := [(0, .ref (g 0)), (1, .int p1), (2, .int p2)]) (own := RX8) (cc := cX8_dead) (nL := 8) (ret := (some .int)) (by decide +kernel) rfl rfl (Nat.le_of_ble_eq_true rfl) rfl ?_
  intro pp ee ss mm bl me co hsz hC0 hP hD hS ls hl
  subst hsz
  obtain ⟨hx, hb, hr, hml, hown, hts, hK, hlk⟩ := hC0
  have hA : ∀ q, ss.heap.size ≤ q → va_A (wModel k g s im fr hd nw hh qs qz it th hm ow lo) ss.heap.size q := fun q h => Or.inr h
  have iX8 : ∀ w ∈ wsX80, w ∈ wsX8_dead := fun _ h => List.mem_cons_of_mem _ (List.mem_append_right _ h)
  have w1 := hts (.fieldLink RX8 7 "DeadListPoolModel" "s" "[I") (List.mem_of_getElem? (i := 1) rfl)
  have B36 : ∀ (n36 : Nat) (x1 : Int32) (x2 : Int32) (x4 : Int32) (x5 : Int32) (x6 : Int32) (x7 : Int32), xX8_dead_36 s n36 x1 x2 x4 x5 x6 x7 = some r → ∀ (H : Heap) (locs : List Loc), va_P D vwCl (wModel k g s im fr hd nw hh qs qz it th hm ow lo) H → va_D (va_A (wModel k g s im fr hd nw hh qs qz it th hm ow lo) ss.heap.size) (wModel k g s im fr hd nw hh qs qz it th hm ow lo) → va_S (va_A (wModel k g s im fr hd nw hh qs qz it th hm ow lo) ss.heap.size) ss.heap H locs → ∀ ls : Array Slot, lv_has ls 8 [(0, .ref (g 0)), (1, .int x1), (2, .int x2), (4, .int x4), (5, .int x5), (6, .int x6), (7, .int x7)] → W pp l ee ({ frames := 6, cells := 0, slots := 0, locals := 131 } : Room) ss mm ([.ref (g 0), .int p1, .int p2] : List Value).toArray bl me co H locs 0 0 (MQ bl (cQi D k (wModel k g s im fr hd nw hh qs qz it th hm ow lo) ss.heap.size r (wModel k g s im fr hd nw hh qs qz it th hm ow lo)) ([.ref (g 0), .int p1, .int p2] : List Value).toArray ss 0 0 (va_A (wModel k g s im fr hd nw hh qs qz it th hm ow lo) ss.heap.size)) (F0 mm 36 ls []) := by
    intro n36
    induction n36 with
    | zero =>
      intro x1 x2 x4 x5 x6 x7 he
      exact absurd (show (none : Option (Int32)) = some r from he) (by simp)
    | succ n36 ih36 =>
      have B94 : ∀ (x1 : Int32) (x2 : Int32) (x4 : Int32) (x6 : Int32) (x7 : Int32) (y0 : Int32), xX8_dead_94 s (xX8_dead_36 s n36) x1 x2 x4 x6 x7 y0 = some r → ∀ (H : Heap) (locs : List Loc), va_P D vwCl (wModel k g s im fr hd nw hh qs qz it th hm ow lo) H → va_D (va_A (wModel k g s im fr hd nw hh qs qz it th hm ow lo) ss.heap.size) (wModel k g s im fr hd nw hh qs qz it th hm ow lo) → va_S (va_A (wModel k g s im fr hd nw hh qs qz it th hm ow lo) ss.heap.size) ss.heap H locs → ∀ ls : Array Slot, lv_has ls 8 [(0, .ref (g 0)), (1, .int x1), (2, .int x2), (4, .int x4), (6, .int x6), (7, .int x7)] → W pp l ee ({ frames := 6, cells := 0, slots := 0, locals := 131 } : Room) ss mm ([.ref (g 0), .int p1, .int p2] : List Value).toArray bl me co H locs 0 0 (MQ bl (cQi D k (wModel k g s im fr hd nw hh qs qz it th hm ow lo) ss.heap.size r (wModel k g s im fr hd nw hh qs qz it th hm ow lo)) ([.ref (g 0), .int p1, .int p2] : List Value).toArray ss 0 0 (va_A (wModel k g s im fr hd nw hh qs qz it th hm ow lo) ss.heap.size)) (F0 mm 94 ls [.int y0]) := by
        intro x1 x2 x4 x6 x7 y0 he H locs hP hD hS ls hl
        refine lv_istore (lv' := [(5, .int y0), (0, .ref (g 0)), (1, .int x1), (2, .int x2), (4, .int x4), (6, .int x6), (7, .int x7)]) hx hb dX8_dead_94 hl (by decide) rfl (fun ls hl => ?_)
        refine lv_iload hx hb dX8_dead_96 (lv_at hl 5 rfl) ?_
        refine lv_iconst (v := (-1)) hx hb dX8_dead_98 (by decide) ?_
        refine lv_icmp_eq (tgt := 127) hx hb dX8_dead_99 (by decide) (fun c1 => ?_) (fun c1 => ?_)
        · have he := ifp he c1
          refine lv_iload hx hb dX8_dead_127 (lv_at hl 6 rfl) ?_
          refine lv_goto (tgt := 134) hx hb dX8_dead_129 (by decide) ?_
          refine lv_istore (lv' := [(6, .int x7), (5, .int y0), (0, .ref (g 0)), (1, .int x1), (2, .int x2), (4, .int x4), (7, .int x7)]) hx hb dX8_dead_134 hl (by decide) rfl (fun ls hl => ?_)
          refine lv_iinc (v := (x7 + 1)) (lv' := [(7, .int (x7 + 1)), (6, .int x7), (5, .int y0), (0, .ref (g 0)), (1, .int x1), (2, .int x2), (4, .int x4)]) hx hb dX8_dead_136 hl (k := 6) rfl rfl (by decide) rfl (fun ls hl => ?_)
          refine lv_goto (tgt := 36) hx hb dX8_dead_139 (by decide) ?_
          exact ih36 x1 x2 x4 y0 x7 (x7 + 1) he H locs hP hD hS ls (lv_sub hl [3, 4, 5, 6, 2, 1, 0] rfl)
        · have he := ifn he c1
          refine lv_aload_n hx hb dX8_dead_102 rfl (lv_at hl 1 rfl) ?_
          refine va_get (D := D) (ci := 8) (v := .ref (g 1)) (C := RX8) (T := TX8) (N := 13) hx hb hts iX8 hown hK hP 0 rfl rfl 1 (by decide) w1 (fun _ h9 => h9) rfl dX8_dead_103 ?_
          refine lv_sipush (v := 458) hx hb dX8_dead_106 (by decide) ?_
          refine lv_iload hx hb dX8_dead_109 (lv_at hl 6 rfl) ?_
          refine lv_iadd hx hb dX8_dead_111 ?_
          obtain ⟨h2, he⟩ := grd_i he
          refine va_iald hx hb hK hP 1 0 rfl rfl (ix_in h2) dX8_dead_112 ?_
          refine lv_aload_n hx hb dX8_dead_113 rfl (lv_at hl 1 rfl) ?_
          refine va_get (D := D) (ci := 8) (v := .ref (g 1)) (C := RX8) (T := TX8) (N := 13) hx hb hts iX8 hown hK hP 0 rfl rfl 1 (by decide) w1 (fun _ h9 => h9) rfl dX8_dead_114 ?_
          refine lv_sipush (v := 458) hx hb dX8_dead_117 (by decide) ?_
          refine lv_iload hx hb dX8_dead_120 (lv_at hl 5 rfl) ?_
          refine lv_iadd hx hb dX8_dead_122 ?_
          obtain ⟨h3, he⟩ := grd_i he
          refine va_iald hx hb hK hP 1 0 rfl rfl (ix_in h3) dX8_dead_123 ?_
          refine lv_icmp_gt (tgt := 132) hx hb dX8_dead_124 (by decide) (fun c4 => ?_) (fun c4 => ?_)
          · have he := ifp he c4
            refine lv_iload hx hb dX8_dead_132 (lv_at hl 5 rfl) ?_
            refine lv_istore (lv' := [(6, .int x6), (5, .int y0), (0, .ref (g 0)), (1, .int x1), (2, .int x2), (4, .int x4), (7, .int x7)]) hx hb dX8_dead_134 hl (by decide) rfl (fun ls hl => ?_)
            refine lv_iinc (v := (x7 + 1)) (lv' := [(7, .int (x7 + 1)), (6, .int x6), (5, .int y0), (0, .ref (g 0)), (1, .int x1), (2, .int x2), (4, .int x4)]) hx hb dX8_dead_136 hl (k := 6) rfl rfl (by decide) rfl (fun ls hl => ?_)
            refine lv_goto (tgt := 36) hx hb dX8_dead_139 (by decide) ?_
            exact ih36 x1 x2 x4 y0 x6 (x7 + 1) he H locs hP hD hS ls (lv_sub hl [3, 4, 5, 6, 2, 1, 0] rfl)
          · have he := ifn he c4
            refine lv_iload hx hb dX8_dead_127 (lv_at hl 6 rfl) ?_
            refine lv_goto (tgt := 134) hx hb dX8_dead_129 (by decide) ?_
            refine lv_istore (lv' := [(6, .int x7), (5, .int y0), (0, .ref (g 0)), (1, .int x1), (2, .int x2), (4, .int x4), (7, .int x7)]) hx hb dX8_dead_134 hl (by decide) rfl (fun ls hl => ?_)
            refine lv_iinc (v := (x7 + 1)) (lv' := [(7, .int (x7 + 1)), (6, .int x7), (5, .int y0), (0, .ref (g 0)), (1, .int x1), (2, .int x2), (4, .int x4)]) hx hb dX8_dead_136 hl (k := 6) rfl rfl (by decide) rfl (fun ls hl => ?_)
            refine lv_goto (tgt := 36) hx hb dX8_dead_139 (by decide) ?_
            exact ih36 x1 x2 x4 y0 x7 (x7 + 1) he H locs hP hD hS ls (lv_sub hl [3, 4, 5, 6, 2, 1, 0] rfl)
      intro x1 x2 x4 x5 x6 x7 he H locs hP hD hS ls hl
      refine lv_iload hx hb dX8_dead_36 (lv_at hl 6 rfl) ?_
      refine lv_bipush (v := 96) hx hb dX8_dead_38 (by decide) ?_
      refine lv_icmp_ge (tgt := 142) hx hb dX8_dead_40 (by decide) (fun c5 => ?_) (fun c5 => ?_)
      · have he := ifp he c5
        refine lv_iload_n hx hb dX8_dead_142 rfl (lv_at hl 2 rfl) ?_
        refine lv_if_ne (tgt := 151) hx hb dX8_dead_143 (by decide) (fun c6 => ?_) (fun c6 => ?_)
        · have he := ifn he c6
          refine lv_iload_n hx hb dX8_dead_151 rfl (lv_at hl 2 rfl) ?_
          refine lv_iconst (v := 1) hx hb dX8_dead_152 (by decide) ?_
          refine lv_icmp_ne (tgt := 161) hx hb dX8_dead_153 (by decide) (fun c7 => ?_) (fun c7 => ?_)
          · have he := ifn he c7
            refine lv_iload hx hb dX8_dead_161 (lv_at hl 5 rfl) ?_
            obtain rfl := some1 he
            exact cRi hx hb hr hlk hK rfl hP hD hS dX8_dead_163
          · have he := ifp he c7
            refine lv_iload hx hb dX8_dead_156 (lv_at hl 4 rfl) ?_
            refine lv_goto (tgt := 163) hx hb dX8_dead_158 (by decide) ?_
            obtain rfl := some1 he
            exact cRi hx hb hr hlk hK rfl hP hD hS dX8_dead_163
        · have he := ifp he c6
          refine lv_iload hx hb dX8_dead_146 (lv_at hl 3 rfl) ?_
          refine lv_goto (tgt := 163) hx hb dX8_dead_148 (by decide) ?_
          obtain rfl := some1 he
          exact cRi hx hb hr hlk hK rfl hP hD hS dX8_dead_163
      · have he := ifn he c5
        refine lv_aload_n hx hb dX8_dead_43 rfl (lv_at hl 0 rfl) ?_
        refine lv_iload_n hx hb dX8_dead_44 rfl (lv_at hl 1 rfl) ?_
        refine lv_iload hx hb dX8_dead_45 (lv_at hl 6 rfl) ?_
        obtain ⟨v8, h9, he⟩ := bn1_i he
        refine cVir (As := [.int x1, .int x7]) (rest := []) ⟨hx, hb, hml, hown, hts⟩ hK hA hP hD hS (mX8_isDead l D k g (s := s) (im := im) (fr := fr) (hd := hd) (nw := nw) (hh := hh) (qs := qs) (qz := qz) (it := it) (th := th) (hm := hm) (ow := ow) (lo := lo) h9) (cwV 2 hts gX8_dead_X8_isDead rfl rfl rfl kX8_isDead ⟨Nat.le_of_ble_eq_true rfl, Nat.le_of_ble_eq_true rfl⟩) [0, 1, 2, 3, 4, 5, 6, 7, 8, 9] rfl rfl 0 rfl rfl rfl hl.1 rfl (Nat.le_of_ble_eq_true rfl) ⟨Nat.le_refl 0, Nat.le_refl 0⟩ dX8_dead_47 (fun H locs hP hD hS => ?_)
        refine lv_if_eq (tgt := 136) hx hb dX8_dead_50 (by decide) (fun c10 => ?_) (fun c10 => ?_)
        · have he := ifp he c10
          refine lv_iinc (v := (x7 + 1)) (lv' := [(7, .int (x7 + 1)), (0, .ref (g 0)), (1, .int x1), (2, .int x2), (4, .int x4), (5, .int x5), (6, .int x6)]) hx hb dX8_dead_136 hl (k := 6) rfl rfl (by decide) rfl (fun ls hl => ?_)
          refine lv_goto (tgt := 36) hx hb dX8_dead_139 (by decide) ?_
          exact ih36 x1 x2 x4 x5 x6 (x7 + 1) he H locs hP hD hS ls (lv_sub hl [1, 2, 3, 4, 5, 6, 0] rfl)
        · have he := ifn he c10
          refine lv_iinc (v := (x4 + 1)) (lv' := [(4, .int (x4 + 1)), (0, .ref (g 0)), (1, .int x1), (2, .int x2), (5, .int x5), (6, .int x6), (7, .int x7)]) hx hb dX8_dead_53 hl (k := 3) rfl rfl (by decide) rfl (fun ls hl => ?_)
          refine lv_iload hx hb dX8_dead_56 (lv_at hl 4 rfl) ?_
          refine lv_iconst (v := (-1)) hx hb dX8_dead_58 (by decide) ?_
          refine lv_icmp_eq (tgt := 87) hx hb dX8_dead_59 (by decide) (fun c11 => ?_) (fun c11 => ?_)
          · have he := ifp he c11
            refine lv_iload hx hb dX8_dead_87 (lv_at hl 6 rfl) ?_
            refine lv_goto (tgt := 94) hx hb dX8_dead_89 (by decide) ?_
            exact B94 x1 x2 (x4 + 1) x6 x7 x7 he H locs hP hD hS ls (lv_sub hl [1, 2, 3, 0, 5, 6] rfl)
          · have he := ifn he c11
            refine lv_aload_n hx hb dX8_dead_62 rfl (lv_at hl 1 rfl) ?_
            refine va_get (D := D) (ci := 8) (v := .ref (g 1)) (C := RX8) (T := TX8) (N := 13) hx hb hts iX8 hown hK hP 0 rfl rfl 1 (by decide) w1 (fun _ h9 => h9) rfl dX8_dead_63 ?_
            refine lv_sipush (v := 458) hx hb dX8_dead_66 (by decide) ?_
            refine lv_iload hx hb dX8_dead_69 (lv_at hl 6 rfl) ?_
            refine lv_iadd hx hb dX8_dead_71 ?_
            obtain ⟨h12, he⟩ := grd_i he
            refine va_iald hx hb hK hP 1 0 rfl rfl (ix_in h12) dX8_dead_72 ?_
            refine lv_aload_n hx hb dX8_dead_73 rfl (lv_at hl 1 rfl) ?_
            refine va_get (D := D) (ci := 8) (v := .ref (g 1)) (C := RX8) (T := TX8) (N := 13) hx hb hts iX8 hown hK hP 0 rfl rfl 1 (by decide) w1 (fun _ h9 => h9) rfl dX8_dead_74 ?_
            refine lv_sipush (v := 458) hx hb dX8_dead_77 (by decide) ?_
            refine lv_iload hx hb dX8_dead_80 (lv_at hl 4 rfl) ?_
            refine lv_iadd hx hb dX8_dead_82 ?_
            obtain ⟨h13, he⟩ := grd_i he
            refine va_iald hx hb hK hP 1 0 rfl rfl (ix_in h13) dX8_dead_83 ?_
            refine lv_icmp_le (tgt := 92) hx hb dX8_dead_84 (by decide) (fun c14 => ?_) (fun c14 => ?_)
            · have he := ifp he c14
              refine lv_iload hx hb dX8_dead_92 (lv_at hl 4 rfl) ?_
              exact B94 x1 x2 (x4 + 1) x6 x7 x5 he H locs hP hD hS ls (lv_sub hl [1, 2, 3, 0, 5, 6] rfl)
            · have he := ifn he c14
              refine lv_iload hx hb dX8_dead_87 (lv_at hl 6 rfl) ?_
              refine lv_goto (tgt := 94) hx hb dX8_dead_89 (by decide) ?_
              exact B94 x1 x2 (x4 + 1) x6 x7 x7 he H locs hP hD hS ls (lv_sub hl [1, 2, 3, 0, 5, 6] rfl)
  have hS0 := hS
  have key : ∀ (H : Heap) (locs : List Loc), H = ss.heap → locs = [] → va_P D vwCl (wModel k g s im fr hd nw hh qs qz it th hm ow lo) H → va_S (va_A (wModel k g s im fr hd nw hh qs qz it th hm ow lo) ss.heap.size) ss.heap H locs → W pp l ee ({ frames := 6, cells := 0, slots := 0, locals := 131 } : Room) ss mm ([.ref (g 0), .int p1, .int p2] : List Value).toArray bl me co H locs 0 0 (MQ bl (cQi D k (wModel k g s im fr hd nw hh qs qz it th hm ow lo) ss.heap.size r (wModel k g s im fr hd nw hh qs qz it th hm ow lo)) ([.ref (g 0), .int p1, .int p2] : List Value).toArray ss 0 0 (va_A (wModel k g s im fr hd nw hh qs qz it th hm ow lo) ss.heap.size)) (F0 mm 0 ls []) := by
    intro H locs _ _ hP hS
    refine lv_iload_n hx hb dX8_dead_0 rfl (lv_at hl 2 rfl) ?_
    refine lv_iconst (v := 0) hx hb dX8_dead_1 (by decide) ?_
    refine lv_iconst (v := 2) hx hb dX8_dead_2 (by decide) ?_
    obtain ⟨v1001, h1002, he⟩ := bn1_i he
    refine cSi (rest := []) ⟨hx, hb, hml, hown, hts⟩ hK hA hP hD hS (mX8_in l D k h1002) (cwS 3 hts gX8_dead_X8_in rfl rfl rfl kX8_in ⟨Nat.le_of_ble_eq_true rfl, Nat.le_of_ble_eq_true rfl⟩) rfl hl.1 rfl (Nat.le_of_ble_eq_true rfl) ⟨Nat.le_refl 0, Nat.le_refl 0⟩ dX8_dead_3 (fun H locs hP hD hS => ?_)
    refine lv_if_ne (tgt := 12) hx hb dX8_dead_6 (by decide) (fun c1003 => ?_) (fun c1003 => ?_)
    · have he := ifn he c1003
      refine lv_aload_n hx hb dX8_dead_12 rfl (lv_at hl 0 rfl) ?_
      refine lv_iload_n hx hb dX8_dead_13 rfl (lv_at hl 1 rfl) ?_
      obtain ⟨v1004, h1005, he⟩ := bn1_i he
      refine cVir (As := [.int p1]) (rest := []) ⟨hx, hb, hml, hown, hts⟩ hK hA hP hD hS (mX8_askedSlots l D k g (s := s) (im := im) (fr := fr) (hd := hd) (nw := nw) (hh := hh) (qs := qs) (qz := qz) (it := it) (th := th) (hm := hm) (ow := ow) (lo := lo) h1005) (cwV 1 hts gX8_dead_X8_askedSlots rfl rfl rfl kX8_askedSlots ⟨Nat.le_of_ble_eq_true rfl, Nat.le_of_ble_eq_true rfl⟩) [0, 1, 2, 3, 4, 5, 6, 7, 8, 9] rfl rfl 0 rfl rfl rfl hl.1 rfl (Nat.le_of_ble_eq_true rfl) ⟨Nat.le_refl 0, Nat.le_refl 0⟩ dX8_dead_14 (fun H locs hP hD hS => ?_)
      refine lv_istore_n (lv' := [(3, .int v1004), (0, .ref (g 0)), (1, .int p1), (2, .int p2)]) hx hb dX8_dead_17 rfl hl (by decide) rfl (fun ls hl => ?_)
      refine lv_iload_n hx hb dX8_dead_18 rfl (lv_at hl 0 rfl) ?_
      refine lv_if_eq (tgt := 24) hx hb dX8_dead_19 (by decide) (fun c1006 => ?_) (fun c1006 => ?_)
      · have he := ifp he c1006
        refine lv_iconst (v := 0) hx hb dX8_dead_24 (by decide) ?_
        refine lv_istore (lv' := [(4, .int 0), (3, .int v1004), (0, .ref (g 0)), (1, .int p1), (2, .int p2)]) hx hb dX8_dead_25 hl (by decide) rfl (fun ls hl => ?_)
        refine lv_iconst (v := (-1)) hx hb dX8_dead_27 (by decide) ?_
        refine lv_istore (lv' := [(5, .int (-1)), (4, .int 0), (3, .int v1004), (0, .ref (g 0)), (1, .int p1), (2, .int p2)]) hx hb dX8_dead_28 hl (by decide) rfl (fun ls hl => ?_)
        refine lv_iconst (v := (-1)) hx hb dX8_dead_30 (by decide) ?_
        refine lv_istore (lv' := [(6, .int (-1)), (5, .int (-1)), (4, .int 0), (3, .int v1004), (0, .ref (g 0)), (1, .int p1), (2, .int p2)]) hx hb dX8_dead_31 hl (by decide) rfl (fun ls hl => ?_)
        refine lv_iconst (v := 0) hx hb dX8_dead_33 (by decide) ?_
        refine lv_istore (lv' := [(7, .int 0), (6, .int (-1)), (5, .int (-1)), (4, .int 0), (3, .int v1004), (0, .ref (g 0)), (1, .int p1), (2, .int p2)]) hx hb dX8_dead_34 hl (by decide) rfl (fun ls hl => ?_)
        exact B36 600 p1 p2 0 (-1) (-1) 0 he H locs hP hD hS ls (lv_sub hl [5, 6, 7, 3, 2, 1, 0] rfl)
      · have he := ifn he c1006
        refine lv_iload_n hx hb dX8_dead_22 rfl (lv_at hl 0 rfl) ?_
        obtain rfl := some1 he
        exact cRi hx hb hr hlk hK rfl hP hD hS dX8_dead_23
    · have he := ifp he c1003
      refine lv_bipush (v := (-2)) hx hb dX8_dead_9 (by decide) ?_
      obtain rfl := some1 he
      exact cRi hx hb hr hlk hK rfl hP hD hS dX8_dead_11
  exact key ss.heap [] rfl rfl hP hS
theorem kX8_chained : yX8_chained.cls = RX8 ∧ yX8_chained.cls ≠ "java/lang/invoke/MethodHandle" ∧ yX8_chained.cls ≠ "java/lang/invoke/VarHandle" ∧ (parseMethodDescriptor yX8_chained.desc).map (fun d => d.parameters.length) = some 2 := by decide +kernel
set_option maxRecDepth 100000 in
set_option maxHeartbeats 4000000 in
theorem mX8_chained (l : Launch) (D : va_G) (k : Nat → ClassId) (g : Nat → Nat) {s : Nat → Int32} {im : Nat → Int32} {fr : Nat → Int32} {hd : Nat → Int32} {nw : Nat → Int32} {hh : Nat → Int32} {qs : Nat → Int32} {qz : Nat → Int32} {it : Nat → Int64} {th : Int32} {hm : Int32} {ow : Int32} {lo : Int32} {p1 : Int32} {p2 : Int32} {r : Int32}  (he : xX8_chained s p1 p2 = some r) : CtI l D k yX8_chained wsX8_chained ({ frames := 0, cells := 0, slots := 0, locals := 0 } : Room) [.ref (g 0), .int p1, .int p2] (wModel k g s im fr hd nw hh qs qz it th hm ow lo) r (wModel k g s im fr hd nw hh qs qz it th hm ow lo) := by
  intro sz9
  refine cSt (lv := [(0, .ref (g 0)), (1, .int p1), (2, .int p2)]) (own := RX8) (cc := cX8_chained) (nL := 5) (ret := (some .int)) (by decide +kernel) rfl rfl (Nat.le_of_ble_eq_true rfl) rfl ?_
  intro pp ee ss mm bl me co hsz hC0 hP hD hS ls hl
  subst hsz
  obtain ⟨hx, hb, hr, hml, hown, hts, hK, hlk⟩ := hC0
  have hA : ∀ q, ss.heap.size ≤ q → va_A (wModel k g s im fr hd nw hh qs qz it th hm ow lo) ss.heap.size q := fun q h => Or.inr h
  have iX8 : ∀ w ∈ wsX80, w ∈ wsX8_chained := fun _ h => List.mem_cons_of_mem _ (List.mem_append_right _ h)
  have w1 := hts (.fieldLink RX8 7 "DeadListPoolModel" "s" "[I") (List.mem_of_getElem? (i := 1) rfl)
  have B13 : ∀ (n13 : Nat) (x2 : Int32) (x3 : Int32) (x4 : Int32), xX8_chained_13 s n13 x2 x3 x4 = some r → ∀ (H : Heap) (locs : List Loc), va_P D vwCl (wModel k g s im fr hd nw hh qs qz it th hm ow lo) H → va_D (va_A (wModel k g s im fr hd nw hh qs qz it th hm ow lo) ss.heap.size) (wModel k g s im fr hd nw hh qs qz it th hm ow lo) → va_S (va_A (wModel k g s im fr hd nw hh qs qz it th hm ow lo) ss.heap.size) ss.heap H locs → ∀ ls : Array Slot, lv_has ls 5 [(0, .ref (g 0)), (2, .int x2), (3, .int x3), (4, .int x4)] → W pp l ee ({ frames := 0, cells := 0, slots := 0, locals := 0 } : Room) ss mm ([.ref (g 0), .int p1, .int p2] : List Value).toArray bl me co H locs 0 0 (MQ bl (cQi D k (wModel k g s im fr hd nw hh qs qz it th hm ow lo) ss.heap.size r (wModel k g s im fr hd nw hh qs qz it th hm ow lo)) ([.ref (g 0), .int p1, .int p2] : List Value).toArray ss 0 0 (va_A (wModel k g s im fr hd nw hh qs qz it th hm ow lo) ss.heap.size)) (F0 mm 13 ls []) := by
    intro n13
    induction n13 with
    | zero =>
      intro x2 x3 x4 he
      exact absurd (show (none : Option (Int32)) = some r from he) (by simp)
    | succ n13 ih13 =>
      intro x2 x3 x4 he H locs hP hD hS ls hl
      refine lv_iload hx hb dX8_chained_13 (lv_at hl 3 rfl) ?_
      refine lv_iload_n hx hb dX8_chained_15 rfl (lv_at hl 1 rfl) ?_
      refine lv_icmp_ge (tgt := 40) hx hb dX8_chained_16 (by decide) (fun c1 => ?_) (fun c1 => ?_)
      · have he := ifp he c1
        refine lv_iload_n hx hb dX8_chained_40 rfl (lv_at hl 2 rfl) ?_
        obtain rfl := some1 he
        exact cRi hx hb hr hlk hK rfl hP hD hS dX8_chained_41
      · have he := ifn he c1
        refine lv_iload_n hx hb dX8_chained_19 rfl (lv_at hl 2 rfl) ?_
        refine lv_iconst (v := (-1)) hx hb dX8_chained_20 (by decide) ?_
        refine lv_icmp_eq (tgt := 40) hx hb dX8_chained_21 (by decide) (fun c2 => ?_) (fun c2 => ?_)
        · have he := ifp he c2
          refine lv_iload_n hx hb dX8_chained_40 rfl (lv_at hl 2 rfl) ?_
          obtain rfl := some1 he
          exact cRi hx hb hr hlk hK rfl hP hD hS dX8_chained_41
        · have he := ifn he c2
          refine lv_aload_n hx hb dX8_chained_24 rfl (lv_at hl 0 rfl) ?_
          refine va_get (D := D) (ci := 8) (v := .ref (g 1)) (C := RX8) (T := TX8) (N := 13) hx hb hts iX8 hown hK hP 0 rfl rfl 1 (by decide) w1 (fun _ h9 => h9) rfl dX8_chained_25 ?_
          refine lv_bipush (v := 42) hx hb dX8_chained_28 (by decide) ?_
          refine lv_iload_n hx hb dX8_chained_30 rfl (lv_at hl 2 rfl) ?_
          refine lv_iadd hx hb dX8_chained_31 ?_
          obtain ⟨h3, he⟩ := grd_i he
          refine va_iald hx hb hK hP 1 0 rfl rfl (ix_in h3) dX8_chained_32 ?_
          refine lv_istore_n (lv' := [(3, .int (s (Int32.toNatClampNeg (42 + x3)))), (0, .ref (g 0)), (2, .int x2), (4, .int x4)]) hx hb dX8_chained_33 rfl hl (by decide) rfl (fun ls hl => ?_)
          refine lv_iinc (v := (x4 + 1)) (lv' := [(4, .int (x4 + 1)), (3, .int (s (Int32.toNatClampNeg (42 + x3)))), (0, .ref (g 0)), (2, .int x2)]) hx hb dX8_chained_34 hl (k := 3) rfl rfl (by decide) rfl (fun ls hl => ?_)
          refine lv_goto (tgt := 13) hx hb dX8_chained_37 (by decide) ?_
          exact ih13 x2 (s (Int32.toNatClampNeg (42 + x3))) (x4 + 1) he H locs hP hD hS ls (lv_sub hl [2, 3, 1, 0] rfl)
  have hS0 := hS
  have key : ∀ (H : Heap) (locs : List Loc), H = ss.heap → locs = [] → va_P D vwCl (wModel k g s im fr hd nw hh qs qz it th hm ow lo) H → va_S (va_A (wModel k g s im fr hd nw hh qs qz it th hm ow lo) ss.heap.size) ss.heap H locs → W pp l ee ({ frames := 0, cells := 0, slots := 0, locals := 0 } : Room) ss mm ([.ref (g 0), .int p1, .int p2] : List Value).toArray bl me co H locs 0 0 (MQ bl (cQi D k (wModel k g s im fr hd nw hh qs qz it th hm ow lo) ss.heap.size r (wModel k g s im fr hd nw hh qs qz it th hm ow lo)) ([.ref (g 0), .int p1, .int p2] : List Value).toArray ss 0 0 (va_A (wModel k g s im fr hd nw hh qs qz it th hm ow lo) ss.heap.size)) (F0 mm 0 ls []) := by
    intro H locs _ _ hP hS
    refine lv_aload_n hx hb dX8_chained_0 rfl (lv_at hl 0 rfl) ?_
    refine va_get (D := D) (ci := 8) (v := .ref (g 1)) (C := RX8) (T := TX8) (N := 13) hx hb hts iX8 hown hK hP 0 rfl rfl 1 (by decide) w1 (fun _ h9 => h9) rfl dX8_chained_1 ?_
    refine lv_bipush (v := 42) hx hb dX8_chained_4 (by decide) ?_
    refine lv_iload_n hx hb dX8_chained_6 rfl (lv_at hl 1 rfl) ?_
    refine lv_iadd hx hb dX8_chained_7 ?_
    obtain ⟨h1001, he⟩ := grd_i he
    refine va_iald hx hb hK hP 1 0 rfl rfl (ix_in h1001) dX8_chained_8 ?_
    refine lv_istore_n (lv' := [(3, .int (s (Int32.toNatClampNeg (42 + p1)))), (0, .ref (g 0)), (1, .int p1), (2, .int p2)]) hx hb dX8_chained_9 rfl hl (by decide) rfl (fun ls hl => ?_)
    refine lv_iconst (v := 0) hx hb dX8_chained_10 (by decide) ?_
    refine lv_istore (lv' := [(4, .int 0), (3, .int (s (Int32.toNatClampNeg (42 + p1)))), (0, .ref (g 0)), (1, .int p1), (2, .int p2)]) hx hb dX8_chained_11 hl (by decide) rfl (fun ls hl => ?_)
    exact B13 600 p2 (s (Int32.toNatClampNeg (42 + p1))) 0 he H locs hP hD hS ls (lv_sub hl [2, 4, 1, 0] rfl)
  exact key ss.heap [] rfl rfl hP hS
theorem kX8_deadList : yX8_deadList.cls = RX8 ∧ yX8_deadList.cls ≠ "java/lang/invoke/MethodHandle" ∧ yX8_deadList.cls ≠ "java/lang/invoke/VarHandle" ∧ (parseMethodDescriptor yX8_deadList.desc).map (fun d => d.parameters.length) = some 2 := by decide +kernel
set_option maxRecDepth 100000 in
set_option maxHeartbeats 4000000 in
theorem mX8_deadList (l : Launch) (D : va_G) (k : Nat → ClassId) (g : Nat → Nat) {s : Nat → Int32} {im : Nat → Int32} {fr : Nat → Int32} {hd : Nat → Int32} {nw : Nat → Int32} {hh : Nat → Int32} {qs : Nat → Int32} {qz : Nat → Int32} {it : Nat → Int64} {th : Int32} {hm : Int32} {ow : Int32} {lo : Int32} {p1 : Int32} {p2 : Int32} {r : Int64}  (he : xX8_deadList s p1 p2 = some r) : CtL l D k yX8_deadList wsX8_deadList ({ frames := 6, cells := 0, slots := 0, locals := 131 } : Room) [.ref (g 0), .int p1, .int p2] (wModel k g s im fr hd nw hh qs qz it th hm ow lo) r (wModel k g s im fr hd nw hh qs qz it th hm ow lo) := by
  intro sz9
  refine cSt (lv := [(0, .ref (g 0)), (1, .int p1), (2, .int p2)]) (own := RX8) (cc := cX8_deadList) (nL := 9) (ret := (some .long)) (by decide +kernel) rfl rfl (Nat.le_of_ble_eq_true rfl) rfl ?_
  intro pp ee ss mm bl me co hsz hC0 hP hD hS ls hl
  subst hsz
  obtain ⟨hx, hb, hr, hml, hown, hts, hK, hlk⟩ := hC0
  have hA : ∀ q, ss.heap.size ≤ q → va_A (wModel k g s im fr hd nw hh qs qz it th hm ow lo) ss.heap.size q := fun q h => Or.inr h
  have iX8 : ∀ w ∈ wsX80, w ∈ wsX8_deadList := fun _ h => List.mem_cons_of_mem _ (List.mem_append_right _ h)
  have w2 := hts (.fieldLink RX8 7 "DeadListPoolModel" "s" "[I") (List.mem_of_getElem? (i := 2) rfl)
  have w1 := hts (.constantLong RX8 134 (-4611686018427387904)) (List.mem_of_getElem? (i := 1) rfl)
  have B55 : ∀ (n55 : Nat) (x1 : Int32) (x3 : Int32) (x4 : Int32) (x5 : Int64) (x7 : Int32), xX8_deadList_55 s n55 x1 x3 x4 x5 x7 = some r → ∀ (H : Heap) (locs : List Loc), va_P D vwCl (wModel k g s im fr hd nw hh qs qz it th hm ow lo) H → va_D (va_A (wModel k g s im fr hd nw hh qs qz it th hm ow lo) ss.heap.size) (wModel k g s im fr hd nw hh qs qz it th hm ow lo) → va_S (va_A (wModel k g s im fr hd nw hh qs qz it th hm ow lo) ss.heap.size) ss.heap H locs → ∀ ls : Array Slot, lv_has ls 9 [(0, .ref (g 0)), (1, .int x1), (3, .int x3), (4, .int x4), (5, .long x5), (7, .int x7)] → W pp l ee ({ frames := 6, cells := 0, slots := 0, locals := 131 } : Room) ss mm ([.ref (g 0), .int p1, .int p2] : List Value).toArray bl me co H locs 0 0 (MQ bl (cQl D k (wModel k g s im fr hd nw hh qs qz it th hm ow lo) ss.heap.size r (wModel k g s im fr hd nw hh qs qz it th hm ow lo)) ([.ref (g 0), .int p1, .int p2] : List Value).toArray ss 0 0 (va_A (wModel k g s im fr hd nw hh qs qz it th hm ow lo) ss.heap.size)) (F0 mm 55 ls []) := by
    intro n55
    induction n55 with
    | zero =>
      intro x1 x3 x4 x5 x7 he
      exact absurd (show (none : Option (Int64)) = some r from he) (by simp)
    | succ n55 ih55 =>
      have B130 : ∀ (x1 : Int32) (x3 : Int32) (x4 : Int32) (x5 : Int64) (x7 : Int32) (y0 : Int32), xX8_deadList_130 s (xX8_deadList_55 s n55) x1 x3 x4 x5 x7 y0 = some r → ∀ (H : Heap) (locs : List Loc), va_P D vwCl (wModel k g s im fr hd nw hh qs qz it th hm ow lo) H → va_D (va_A (wModel k g s im fr hd nw hh qs qz it th hm ow lo) ss.heap.size) (wModel k g s im fr hd nw hh qs qz it th hm ow lo) → va_S (va_A (wModel k g s im fr hd nw hh qs qz it th hm ow lo) ss.heap.size) ss.heap H locs → ∀ ls : Array Slot, lv_has ls 9 [(0, .ref (g 0)), (1, .int x1), (3, .int x3), (4, .int x4), (5, .long x5), (7, .int x7)] → W pp l ee ({ frames := 6, cells := 0, slots := 0, locals := 131 } : Room) ss mm ([.ref (g 0), .int p1, .int p2] : List Value).toArray bl me co H locs 0 0 (MQ bl (cQl D k (wModel k g s im fr hd nw hh qs qz it th hm ow lo) ss.heap.size r (wModel k g s im fr hd nw hh qs qz it th hm ow lo)) ([.ref (g 0), .int p1, .int p2] : List Value).toArray ss 0 0 (va_A (wModel k g s im fr hd nw hh qs qz it th hm ow lo) ss.heap.size)) (F0 mm 130 ls [.int y0]) := by
        intro x1 x3 x4 x5 x7 y0 he H locs hP hD hS ls hl
        refine lv_istore (lv' := [(8, .int y0), (0, .ref (g 0)), (1, .int x1), (3, .int x3), (4, .int x4), (5, .long x5), (7, .int x7)]) hx hb dX8_deadList_130 hl (by decide) rfl (fun ls hl => ?_)
        refine lv_lload hx hb dX8_deadList_132 (lv_at hl 5 rfl) ?_
        refine lv_iload hx hb dX8_deadList_134 (lv_at hl 0 rfl) ?_
        refine lv_if_eq (tgt := 154) hx hb dX8_deadList_136 (by decide) (fun c1 => ?_) (fun c1 => ?_)
        · have he := ifp he c1
          refine lv_lconst (v := 0) hx hb dX8_deadList_154 (by decide) ?_
          refine lv_ladd hx hb dX8_deadList_155 ?_
          refine lv_lstore (lv' := [(5, .long (x5 + 0)), (8, .int y0), (0, .ref (g 0)), (1, .int x1), (3, .int x3), (4, .int x4), (7, .int x7)]) hx hb dX8_deadList_156 hl (by decide) rfl (fun ls hl => ?_)
          refine lv_iinc (v := (x7 + 1)) (lv' := [(7, .int (x7 + 1)), (5, .long (x5 + 0)), (8, .int y0), (0, .ref (g 0)), (1, .int x1), (3, .int x3), (4, .int x4)]) hx hb dX8_deadList_158 hl (k := 6) rfl rfl (by decide) rfl (fun ls hl => ?_)
          refine lv_goto (tgt := 55) hx hb dX8_deadList_161 (by decide) ?_
          exact ih55 x1 x3 x4 (x5 + 0) (x7 + 1) he H locs hP hD hS ls (lv_sub hl [3, 4, 5, 6, 1, 0] rfl)
        · have he := ifn he c1
          refine lv_aload_n hx hb dX8_deadList_139 rfl (lv_at hl 1 rfl) ?_
          refine va_get (D := D) (ci := 8) (v := .ref (g 1)) (C := RX8) (T := TX8) (N := 13) hx hb hts iX8 hown hK hP 0 rfl rfl 1 (by decide) w2 (fun _ h9 => h9) rfl dX8_deadList_140 ?_
          refine lv_sipush (v := 362) hx hb dX8_deadList_143 (by decide) ?_
          refine lv_iload hx hb dX8_deadList_146 (lv_at hl 6 rfl) ?_
          refine lv_iadd hx hb dX8_deadList_148 ?_
          obtain ⟨h2, he⟩ := grd_i he
          refine va_iald hx hb hK hP 1 0 rfl rfl (ix_in h2) dX8_deadList_149 ?_
          refine lv_i2l (v := (Int32.toInt64 (s (Int32.toNatClampNeg (362 + x7))))) hx hb dX8_deadList_150 rfl ?_
          refine lv_goto (tgt := 155) hx hb dX8_deadList_151 (by decide) ?_
          refine lv_ladd hx hb dX8_deadList_155 ?_
          refine lv_lstore (lv' := [(5, .long (x5 + (Int32.toInt64 (s (Int32.toNatClampNeg (362 + x7)))))), (8, .int y0), (0, .ref (g 0)), (1, .int x1), (3, .int x3), (4, .int x4), (7, .int x7)]) hx hb dX8_deadList_156 hl (by decide) rfl (fun ls hl => ?_)
          refine lv_iinc (v := (x7 + 1)) (lv' := [(7, .int (x7 + 1)), (5, .long (x5 + (Int32.toInt64 (s (Int32.toNatClampNeg (362 + x7)))))), (8, .int y0), (0, .ref (g 0)), (1, .int x1), (3, .int x3), (4, .int x4)]) hx hb dX8_deadList_158 hl (k := 6) rfl rfl (by decide) rfl (fun ls hl => ?_)
          refine lv_goto (tgt := 55) hx hb dX8_deadList_161 (by decide) ?_
          exact ih55 x1 x3 x4 (x5 + (Int32.toInt64 (s (Int32.toNatClampNeg (362 + x7))))) (x7 + 1) he H locs hP hD hS ls (lv_sub hl [3, 4, 5, 6, 1, 0] rfl)
      intro x1 x3 x4 x5 x7 he H locs hP hD hS ls hl
      refine lv_iload hx hb dX8_deadList_55 (lv_at hl 5 rfl) ?_
      refine lv_bipush (v := 96) hx hb dX8_deadList_57 (by decide) ?_
      refine lv_icmp_ge (tgt := 164) hx hb dX8_deadList_59 (by decide) (fun c3 => ?_) (fun c3 => ?_)
      · have he := ifp he c3
        refine lv_lload hx hb dX8_deadList_164 (lv_at hl 4 rfl) ?_
        obtain rfl := some1 he
        exact cRl hx hb hr hlk hK hP hD hS dX8_deadList_166
      · have he := ifn he c3
        refine lv_aload_n hx hb dX8_deadList_62 rfl (lv_at hl 0 rfl) ?_
        refine lv_iload_n hx hb dX8_deadList_63 rfl (lv_at hl 1 rfl) ?_
        refine lv_iload hx hb dX8_deadList_64 (lv_at hl 5 rfl) ?_
        obtain ⟨v4, h5, he⟩ := bn1_i he
        refine cVir (As := [.int x1, .int x7]) (rest := []) ⟨hx, hb, hml, hown, hts⟩ hK hA hP hD hS (mX8_isDead l D k g (s := s) (im := im) (fr := fr) (hd := hd) (nw := nw) (hh := hh) (qs := qs) (qz := qz) (it := it) (th := th) (hm := hm) (ow := ow) (lo := lo) h5) (cwV 2 hts gX8_deadList_X8_isDead rfl rfl rfl kX8_isDead ⟨Nat.le_of_ble_eq_true rfl, Nat.le_of_ble_eq_true rfl⟩) [0, 1, 2, 3, 4, 5, 6, 7, 8, 9] rfl rfl 0 rfl rfl rfl hl.1 rfl (Nat.le_of_ble_eq_true rfl) ⟨Nat.le_refl 0, Nat.le_refl 0⟩ dX8_deadList_66 (fun H locs hP hD hS => ?_)
        refine lv_if_eq (tgt := 129) hx hb dX8_deadList_69 (by decide) (fun c6 => ?_) (fun c6 => ?_)
        · have he := ifp he c6
          refine lv_iconst (v := 0) hx hb dX8_deadList_129 (by decide) ?_
          exact B130 x1 x3 x4 x5 x7 0 he H locs hP hD hS ls (lv_sub hl [0, 1, 2, 3, 4, 5] rfl)
        · have he := ifn he c6
          refine lv_aload_n hx hb dX8_deadList_72 rfl (lv_at hl 0 rfl) ?_
          refine va_get (D := D) (ci := 8) (v := .ref (g 1)) (C := RX8) (T := TX8) (N := 13) hx hb hts iX8 hown hK hP 0 rfl rfl 1 (by decide) w2 (fun _ h9 => h9) rfl dX8_deadList_73 ?_
          refine lv_sipush (v := 458) hx hb dX8_deadList_76 (by decide) ?_
          refine lv_iload hx hb dX8_deadList_79 (lv_at hl 5 rfl) ?_
          refine lv_iadd hx hb dX8_deadList_81 ?_
          obtain ⟨h7, he⟩ := grd_i he
          refine va_iald hx hb hK hP 1 0 rfl rfl (ix_in h7) dX8_deadList_82 ?_
          refine lv_aload_n hx hb dX8_deadList_83 rfl (lv_at hl 0 rfl) ?_
          refine va_get (D := D) (ci := 8) (v := .ref (g 1)) (C := RX8) (T := TX8) (N := 13) hx hb hts iX8 hown hK hP 0 rfl rfl 1 (by decide) w2 (fun _ h9 => h9) rfl dX8_deadList_84 ?_
          refine lv_bipush (v := 22) hx hb dX8_deadList_87 (by decide) ?_
          refine lv_iload_n hx hb dX8_deadList_89 rfl (lv_at hl 2 rfl) ?_
          refine lv_iadd hx hb dX8_deadList_90 ?_
          obtain ⟨h8, he⟩ := grd_i he
          refine va_iald hx hb hK hP 1 0 rfl rfl (ix_in h8) dX8_deadList_91 ?_
          refine lv_icmp_gt (tgt := 129) hx hb dX8_deadList_92 (by decide) (fun c9 => ?_) (fun c9 => ?_)
          · have he := ifp he c9
            refine lv_iconst (v := 0) hx hb dX8_deadList_129 (by decide) ?_
            exact B130 x1 x3 x4 x5 x7 0 he H locs hP hD hS ls (lv_sub hl [0, 1, 2, 3, 4, 5] rfl)
          · have he := ifn he c9
            refine lv_iload hx hb dX8_deadList_95 (lv_at hl 3 rfl) ?_
            refine lv_iconst (v := (-1)) hx hb dX8_deadList_97 (by decide) ?_
            refine lv_icmp_eq (tgt := 125) hx hb dX8_deadList_98 (by decide) (fun c10 => ?_) (fun c10 => ?_)
            · have he := ifp he c10
              refine lv_iconst (v := 1) hx hb dX8_deadList_125 (by decide) ?_
              refine lv_goto (tgt := 130) hx hb dX8_deadList_126 (by decide) ?_
              exact B130 x1 x3 x4 x5 x7 1 he H locs hP hD hS ls (lv_sub hl [0, 1, 2, 3, 4, 5] rfl)
            · have he := ifn he c10
              refine lv_aload_n hx hb dX8_deadList_101 rfl (lv_at hl 0 rfl) ?_
              refine va_get (D := D) (ci := 8) (v := .ref (g 1)) (C := RX8) (T := TX8) (N := 13) hx hb hts iX8 hown hK hP 0 rfl rfl 1 (by decide) w2 (fun _ h9 => h9) rfl dX8_deadList_102 ?_
              refine lv_sipush (v := 458) hx hb dX8_deadList_105 (by decide) ?_
              refine lv_iload hx hb dX8_deadList_108 (lv_at hl 5 rfl) ?_
              refine lv_iadd hx hb dX8_deadList_110 ?_
              obtain ⟨h11, he⟩ := grd_i he
              refine va_iald hx hb hK hP 1 0 rfl rfl (ix_in h11) dX8_deadList_111 ?_
              refine lv_aload_n hx hb dX8_deadList_112 rfl (lv_at hl 0 rfl) ?_
              refine va_get (D := D) (ci := 8) (v := .ref (g 1)) (C := RX8) (T := TX8) (N := 13) hx hb hts iX8 hown hK hP 0 rfl rfl 1 (by decide) w2 (fun _ h9 => h9) rfl dX8_deadList_113 ?_
              refine lv_bipush (v := 22) hx hb dX8_deadList_116 (by decide) ?_
              refine lv_iload hx hb dX8_deadList_118 (lv_at hl 3 rfl) ?_
              refine lv_iadd hx hb dX8_deadList_120 ?_
              obtain ⟨h12, he⟩ := grd_i he
              refine va_iald hx hb hK hP 1 0 rfl rfl (ix_in h12) dX8_deadList_121 ?_
              refine lv_icmp_le (tgt := 129) hx hb dX8_deadList_122 (by decide) (fun c13 => ?_) (fun c13 => ?_)
              · have he := ifp he c13
                refine lv_iconst (v := 0) hx hb dX8_deadList_129 (by decide) ?_
                exact B130 x1 x3 x4 x5 x7 0 he H locs hP hD hS ls (lv_sub hl [0, 1, 2, 3, 4, 5] rfl)
              · have he := ifn he c13
                refine lv_iconst (v := 1) hx hb dX8_deadList_125 (by decide) ?_
                refine lv_goto (tgt := 130) hx hb dX8_deadList_126 (by decide) ?_
                exact B130 x1 x3 x4 x5 x7 1 he H locs hP hD hS ls (lv_sub hl [0, 1, 2, 3, 4, 5] rfl)
  have hS0 := hS
  have key : ∀ (H : Heap) (locs : List Loc), H = ss.heap → locs = [] → va_P D vwCl (wModel k g s im fr hd nw hh qs qz it th hm ow lo) H → va_S (va_A (wModel k g s im fr hd nw hh qs qz it th hm ow lo) ss.heap.size) ss.heap H locs → W pp l ee ({ frames := 6, cells := 0, slots := 0, locals := 131 } : Room) ss mm ([.ref (g 0), .int p1, .int p2] : List Value).toArray bl me co H locs 0 0 (MQ bl (cQl D k (wModel k g s im fr hd nw hh qs qz it th hm ow lo) ss.heap.size r (wModel k g s im fr hd nw hh qs qz it th hm ow lo)) ([.ref (g 0), .int p1, .int p2] : List Value).toArray ss 0 0 (va_A (wModel k g s im fr hd nw hh qs qz it th hm ow lo) ss.heap.size)) (F0 mm 0 ls []) := by
    intro H locs _ _ hP hS
    refine lv_aload_n hx hb dX8_deadList_0 rfl (lv_at hl 0 rfl) ?_
    refine lv_iload_n hx hb dX8_deadList_1 rfl (lv_at hl 1 rfl) ?_
    obtain ⟨v1001, h1002, he⟩ := bn1_i he
    refine cVir (As := [.int p1]) (rest := []) ⟨hx, hb, hml, hown, hts⟩ hK hA hP hD hS (mX8_hasSlots l D k g (s := s) (im := im) (fr := fr) (hd := hd) (nw := nw) (hh := hh) (qs := qs) (qz := qz) (it := it) (th := th) (hm := hm) (ow := ow) (lo := lo) h1002) (cwV 1 hts gX8_deadList_X8_hasSlots rfl rfl rfl kX8_hasSlots ⟨Nat.le_of_ble_eq_true rfl, Nat.le_of_ble_eq_true rfl⟩) [0, 1, 2, 3, 4, 5, 6, 7, 8, 9] rfl rfl 0 rfl rfl rfl hl.1 rfl (Nat.le_of_ble_eq_true rfl) ⟨Nat.le_refl 0, Nat.le_refl 0⟩ dX8_deadList_2 (fun H locs hP hD hS => ?_)
    refine lv_if_eq (tgt := 28) hx hb dX8_deadList_5 (by decide) (fun c1003 => ?_) (fun c1003 => ?_)
    · have he := ifp he c1003
      refine lv_ldc2 hx hb hown w1 dX8_deadList_28 ?_
      obtain rfl := some1 he
      exact cRl hx hb hr hlk hK hP hD hS dX8_deadList_31
    · have he := ifn he c1003
      refine lv_iload_n hx hb dX8_deadList_8 rfl (lv_at hl 2 rfl) ?_
      refine lv_iconst (v := 0) hx hb dX8_deadList_9 (by decide) ?_
      refine lv_bipush (v := 19) hx hb dX8_deadList_10 (by decide) ?_
      obtain ⟨v1004, h1005, he⟩ := bn1_i he
      refine cSi (rest := []) ⟨hx, hb, hml, hown, hts⟩ hK hA hP hD hS (mX8_in l D k h1005) (cwS 3 hts gX8_deadList_X8_in rfl rfl rfl kX8_in ⟨Nat.le_of_ble_eq_true rfl, Nat.le_of_ble_eq_true rfl⟩) rfl hl.1 rfl (Nat.le_of_ble_eq_true rfl) ⟨Nat.le_refl 0, Nat.le_refl 0⟩ dX8_deadList_12 (fun H locs hP hD hS => ?_)
      refine lv_if_eq (tgt := 28) hx hb dX8_deadList_15 (by decide) (fun c1006 => ?_) (fun c1006 => ?_)
      · have he := ifp he c1006
        refine lv_ldc2 hx hb hown w1 dX8_deadList_28 ?_
        obtain rfl := some1 he
        exact cRl hx hb hr hlk hK hP hD hS dX8_deadList_31
      · have he := ifn he c1006
        refine lv_aload_n hx hb dX8_deadList_18 rfl (lv_at hl 0 rfl) ?_
        refine lv_iload_n hx hb dX8_deadList_19 rfl (lv_at hl 1 rfl) ?_
        refine lv_iload_n hx hb dX8_deadList_20 rfl (lv_at hl 2 rfl) ?_
        obtain ⟨v1007, h1008, he⟩ := bn1_i he
        refine cVir (As := [.int p1, .int p2]) (rest := []) ⟨hx, hb, hml, hown, hts⟩ hK hA hP hD hS (mX8_chained l D k g (s := s) (im := im) (fr := fr) (hd := hd) (nw := nw) (hh := hh) (qs := qs) (qz := qz) (it := it) (th := th) (hm := hm) (ow := ow) (lo := lo) h1008) (cwV 2 hts gX8_deadList_X8_chained rfl rfl rfl kX8_chained ⟨Nat.le_of_ble_eq_true rfl, Nat.le_of_ble_eq_true rfl⟩) [0, 1, 2, 3, 4, 5, 6, 7, 8, 9] rfl rfl 0 rfl rfl rfl hl.1 rfl (Nat.le_of_ble_eq_true rfl) ⟨Nat.le_refl 0, Nat.le_refl 0⟩ dX8_deadList_21 (fun H locs hP hD hS => ?_)
        refine lv_iconst (v := (-1)) hx hb dX8_deadList_24 (by decide) ?_
        refine lv_icmp_ne (tgt := 32) hx hb dX8_deadList_25 (by decide) (fun c1009 => ?_) (fun c1009 => ?_)
        · have he := ifn he c1009
          refine lv_aload_n hx hb dX8_deadList_32 rfl (lv_at hl 0 rfl) ?_
          refine lv_iload_n hx hb dX8_deadList_33 rfl (lv_at hl 1 rfl) ?_
          refine lv_iload_n hx hb dX8_deadList_34 rfl (lv_at hl 2 rfl) ?_
          obtain ⟨v1010, h1011, he⟩ := bn1_i he
          refine cVir (As := [.int p1, .int p2]) (rest := []) ⟨hx, hb, hml, hown, hts⟩ hK hA hP hD hS (mX8_chained l D k g (s := s) (im := im) (fr := fr) (hd := hd) (nw := nw) (hh := hh) (qs := qs) (qz := qz) (it := it) (th := th) (hm := hm) (ow := ow) (lo := lo) h1011) (cwV 2 hts gX8_deadList_X8_chained rfl rfl rfl kX8_chained ⟨Nat.le_of_ble_eq_true rfl, Nat.le_of_ble_eq_true rfl⟩) [0, 1, 2, 3, 4, 5, 6, 7, 8, 9] rfl rfl 0 rfl rfl rfl hl.1 rfl (Nat.le_of_ble_eq_true rfl) ⟨Nat.le_refl 0, Nat.le_refl 0⟩ dX8_deadList_35 (fun H locs hP hD hS => ?_)
          refine lv_istore_n (lv' := [(3, .int v1010), (0, .ref (g 0)), (1, .int p1), (2, .int p2)]) hx hb dX8_deadList_38 rfl hl (by decide) rfl (fun ls hl => ?_)
          refine lv_aload_n hx hb dX8_deadList_39 rfl (lv_at hl 1 rfl) ?_
          refine lv_iload_n hx hb dX8_deadList_40 rfl (lv_at hl 2 rfl) ?_
          refine lv_iload_n hx hb dX8_deadList_41 rfl (lv_at hl 3 rfl) ?_
          refine lv_iconst (v := 1) hx hb dX8_deadList_42 (by decide) ?_
          refine lv_iadd hx hb dX8_deadList_43 ?_
          obtain ⟨v1012, h1013, he⟩ := bn1_i he
          refine cVir (As := [.int p1, .int (p2 + 1)]) (rest := []) ⟨hx, hb, hml, hown, hts⟩ hK hA hP hD hS (mX8_chained l D k g (s := s) (im := im) (fr := fr) (hd := hd) (nw := nw) (hh := hh) (qs := qs) (qz := qz) (it := it) (th := th) (hm := hm) (ow := ow) (lo := lo) h1013) (cwV 2 hts gX8_deadList_X8_chained rfl rfl rfl kX8_chained ⟨Nat.le_of_ble_eq_true rfl, Nat.le_of_ble_eq_true rfl⟩) [0, 1, 2, 3, 4, 5, 6, 7, 8, 9] rfl rfl 0 rfl rfl rfl hl.1 rfl (Nat.le_of_ble_eq_true rfl) ⟨Nat.le_refl 0, Nat.le_refl 0⟩ dX8_deadList_44 (fun H locs hP hD hS => ?_)
          refine lv_istore (lv' := [(4, .int v1012), (3, .int v1010), (0, .ref (g 0)), (1, .int p1), (2, .int p2)]) hx hb dX8_deadList_47 hl (by decide) rfl (fun ls hl => ?_)
          refine lv_lconst (v := 0) hx hb dX8_deadList_49 (by decide) ?_
          refine lv_lstore (lv' := [(5, .long 0), (4, .int v1012), (3, .int v1010), (0, .ref (g 0)), (1, .int p1), (2, .int p2)]) hx hb dX8_deadList_50 hl (by decide) rfl (fun ls hl => ?_)
          refine lv_iconst (v := 0) hx hb dX8_deadList_52 (by decide) ?_
          refine lv_istore (lv' := [(7, .int 0), (5, .long 0), (4, .int v1012), (3, .int v1010), (0, .ref (g 0)), (1, .int p1), (2, .int p2)]) hx hb dX8_deadList_53 hl (by decide) rfl (fun ls hl => ?_)
          exact B55 600 p1 v1010 v1012 0 0 he H locs hP hD hS ls (lv_sub hl [4, 5, 3, 2, 1, 0] rfl)
        · have he := ifp he c1009
          refine lv_ldc2 hx hb hown w1 dX8_deadList_28 ?_
          obtain rfl := some1 he
          exact cRl hx hb hr hlk hK hP hD hS dX8_deadList_31
  exact key ss.heap [] rfl rfl hP hS
theorem kX8_space : yX8_space.cls = RX8 ∧ yX8_space.cls ≠ "java/lang/invoke/MethodHandle" ∧ yX8_space.cls ≠ "java/lang/invoke/VarHandle" ∧ (parseMethodDescriptor yX8_space.desc).map (fun d => d.parameters.length) = some 1 := by decide +kernel
set_option maxRecDepth 100000 in
set_option maxHeartbeats 4000000 in
theorem mX8_space (l : Launch) (D : va_G) (k : Nat → ClassId) (g : Nat → Nat) {s : Nat → Int32} {im : Nat → Int32} {fr : Nat → Int32} {hd : Nat → Int32} {nw : Nat → Int32} {hh : Nat → Int32} {qs : Nat → Int32} {qz : Nat → Int32} {it : Nat → Int64} {th : Int32} {hm : Int32} {ow : Int32} {lo : Int32} {p1 : Int32} {r : Int64}  (he : xX8_space s p1 = some r) : CtL l D k yX8_space wsX8_space ({ frames := 4, cells := 0, slots := 0, locals := 85 } : Room) [.ref (g 0), .int p1] (wModel k g s im fr hd nw hh qs qz it th hm ow lo) r (wModel k g s im fr hd nw hh qs qz it th hm ow lo) := by
  intro sz9
  refine cSt (lv := [(0, .ref (g 0)), (1, .int p1)]) (own := RX8) (cc := cX8_space) (nL := 2) (ret := (some .long)) (by decide +kernel) rfl rfl (Nat.le_of_ble_eq_true rfl) rfl ?_
  intro pp ee ss mm bl me co hsz hC0 hP hD hS ls hl
  subst hsz
  obtain ⟨hx, hb, hr, hml, hown, hts, hK, hlk⟩ := hC0
  have hA : ∀ q, ss.heap.size ≤ q → va_A (wModel k g s im fr hd nw hh qs qz it th hm ow lo) ss.heap.size q := fun q h => Or.inr h
  have w1 := hts (.constantLong RX8 134 (-4611686018427387904)) (List.mem_of_getElem? (i := 1) rfl)
  have hS0 := hS
  have key : ∀ (H : Heap) (locs : List Loc), H = ss.heap → locs = [] → va_P D vwCl (wModel k g s im fr hd nw hh qs qz it th hm ow lo) H → va_S (va_A (wModel k g s im fr hd nw hh qs qz it th hm ow lo) ss.heap.size) ss.heap H locs → W pp l ee ({ frames := 4, cells := 0, slots := 0, locals := 85 } : Room) ss mm ([.ref (g 0), .int p1] : List Value).toArray bl me co H locs 0 0 (MQ bl (cQl D k (wModel k g s im fr hd nw hh qs qz it th hm ow lo) ss.heap.size r (wModel k g s im fr hd nw hh qs qz it th hm ow lo)) ([.ref (g 0), .int p1] : List Value).toArray ss 0 0 (va_A (wModel k g s im fr hd nw hh qs qz it th hm ow lo) ss.heap.size)) (F0 mm 0 ls []) := by
    intro H locs _ _ hP hS
    refine lv_aload_n hx hb dX8_space_0 rfl (lv_at hl 0 rfl) ?_
    refine lv_iload_n hx hb dX8_space_1 rfl (lv_at hl 1 rfl) ?_
    obtain ⟨v1001, h1002, he⟩ := bn1_i he
    refine cVir (As := [.int p1]) (rest := []) ⟨hx, hb, hml, hown, hts⟩ hK hA hP hD hS (mX8_hasSlots l D k g (s := s) (im := im) (fr := fr) (hd := hd) (nw := nw) (hh := hh) (qs := qs) (qz := qz) (it := it) (th := th) (hm := hm) (ow := ow) (lo := lo) h1002) (cwV 1 hts gX8_space_X8_hasSlots rfl rfl rfl kX8_hasSlots ⟨Nat.le_of_ble_eq_true rfl, Nat.le_of_ble_eq_true rfl⟩) [0, 1, 2, 3, 4, 5, 6, 7, 8, 9] rfl rfl 0 rfl rfl rfl hl.1 rfl (Nat.le_of_ble_eq_true rfl) ⟨Nat.le_refl 0, Nat.le_refl 0⟩ dX8_space_2 (fun H locs hP hD hS => ?_)
    refine lv_if_eq (tgt := 16) hx hb dX8_space_5 (by decide) (fun c1003 => ?_) (fun c1003 => ?_)
    · have he := ifp he c1003
      refine lv_ldc2 hx hb hown w1 dX8_space_16 ?_
      obtain rfl := some1 he
      exact cRl hx hb hr hlk hK hP hD hS dX8_space_19
    · have he := ifn he c1003
      refine lv_aload_n hx hb dX8_space_8 rfl (lv_at hl 0 rfl) ?_
      refine lv_iload_n hx hb dX8_space_9 rfl (lv_at hl 1 rfl) ?_
      obtain ⟨v1004, h1005, he⟩ := bn1_i he
      refine cVlr (As := [.int p1]) (rest := []) ⟨hx, hb, hml, hown, hts⟩ hK hA hP hD hS (mX8_spaceOf l D k g (s := s) (im := im) (fr := fr) (hd := hd) (nw := nw) (hh := hh) (qs := qs) (qz := qz) (it := it) (th := th) (hm := hm) (ow := ow) (lo := lo) h1005) (cwV 1 hts gX8_space_X8_spaceOf rfl rfl rfl kX8_spaceOf ⟨Nat.le_of_ble_eq_true rfl, Nat.le_of_ble_eq_true rfl⟩) [0, 1, 2, 3, 4, 5, 6, 7, 8, 9] rfl rfl 0 rfl rfl rfl hl.1 rfl (Nat.le_of_ble_eq_true rfl) ⟨Nat.le_refl 0, Nat.le_refl 0⟩ dX8_space_10 (fun H locs hP hD hS => ?_)
      refine lv_goto (tgt := 19) hx hb dX8_space_13 (by decide) ?_
      obtain rfl := some1 he
      exact cRl hx hb hr hlk hK hP hD hS dX8_space_19
  exact key ss.heap [] rfl rfl hP hS
theorem kX8_aloneIn : yX8_aloneIn.cls = RX8 ∧ yX8_aloneIn.cls ≠ "java/lang/invoke/MethodHandle" ∧ yX8_aloneIn.cls ≠ "java/lang/invoke/VarHandle" ∧ (parseMethodDescriptor yX8_aloneIn.desc).map (fun d => d.parameters.length) = some 1 := by decide +kernel
set_option maxRecDepth 100000 in
set_option maxHeartbeats 4000000 in
theorem mX8_aloneIn (l : Launch) (D : va_G) (k : Nat → ClassId) (g : Nat → Nat) {s : Nat → Int32} {im : Nat → Int32} {fr : Nat → Int32} {hd_0 : Nat → Int32} {nw : Nat → Int32} {hh : Nat → Int32} {qs : Nat → Int32} {qz : Nat → Int32} {it : Nat → Int64} {th : Int32} {hm : Int32} {ow : Int32} {lo : Int32} {p1 : Int32} {r : Int64} {hd' : Nat → Int32} (he : xX8_aloneIn s hd_0 p1 = some (r, hd')) : CtL l D k yX8_aloneIn wsX8_aloneIn ({ frames := 5, cells := 0, slots := 0, locals := 109 } : Room) [.ref (g 0), .int p1] (wModel k g s im fr hd_0 nw hh qs qz it th hm ow lo) r (wModel k g s im fr hd' nw hh qs qz it th hm ow lo) := by
  intro sz9
  refine cSt (lv := [(0, .ref (g 0)), (1, .int p1)]) (own := RX8) (cc := cX8_aloneIn) (nL := 7) (ret := (some .long)) (by decide +kernel) rfl rfl (Nat.le_of_ble_eq_true rfl) rfl ?_
  intro pp ee ss mm bl me co hsz hC0 hP hD hS ls hl
  subst hsz
  obtain ⟨hx, hb, hr, hml, hown, hts, hK, hlk⟩ := hC0
  have hA : ∀ q, ss.heap.size ≤ q → va_A (wModel k g s im fr hd_0 nw hh qs qz it th hm ow lo) ss.heap.size q := fun q h => Or.inr h
  have iX8 : ∀ w ∈ wsX80, w ∈ wsX8_aloneIn := fun _ h => List.mem_cons_of_mem _ (List.mem_append_right _ h)
  have w1 := hts (.fieldLink RX8 19 "DeadListPoolModel" "holds" "[I") (List.mem_of_getElem? (i := 1) rfl)
  have w2 := hts (.fieldLink RX8 7 "DeadListPoolModel" "s" "[I") (List.mem_of_getElem? (i := 2) rfl)
  have B9 : ∀ (n9 : Nat) (x1 : Int32) (x2 : Int64) (x4 : Int32) (hd : Nat → Int32), xX8_aloneIn_9 s n9 x1 x2 x4 hd = some (r, hd') → ∀ (H : Heap) (locs : List Loc), va_P D vwCl (wModel k g s im fr hd nw hh qs qz it th hm ow lo) H → va_D (va_A (wModel k g s im fr hd_0 nw hh qs qz it th hm ow lo) ss.heap.size) (wModel k g s im fr hd nw hh qs qz it th hm ow lo) → va_S (va_A (wModel k g s im fr hd_0 nw hh qs qz it th hm ow lo) ss.heap.size) ss.heap H locs → ∀ ls : Array Slot, lv_has ls 7 [(0, .ref (g 0)), (1, .int x1), (2, .long x2), (4, .int x4)] → W pp l ee ({ frames := 5, cells := 0, slots := 0, locals := 109 } : Room) ss mm ([.ref (g 0), .int p1] : List Value).toArray bl me co H locs 0 0 (MQ bl (cQl D k (wModel k g s im fr hd_0 nw hh qs qz it th hm ow lo) ss.heap.size r (wModel k g s im fr hd' nw hh qs qz it th hm ow lo)) ([.ref (g 0), .int p1] : List Value).toArray ss 0 0 (va_A (wModel k g s im fr hd_0 nw hh qs qz it th hm ow lo) ss.heap.size)) (F0 mm 9 ls []) := by
    intro n9
    induction n9 with
    | zero =>
      intro x1 x2 x4 hd he
      exact absurd (show (none : Option (Int64 × (Nat → Int32))) = some (r, hd') from he) (by simp)
    | succ n9 ih9 =>
      have B22 : ∀ (n22 : Nat) (x1 : Int32) (x2 : Int64) (x4 : Int32) (x5 : Int32) (x6 : Int32) (hd : Nat → Int32), xX8_aloneIn_22 s (xX8_aloneIn_9 s n9) n22 x1 x2 x4 x5 x6 hd = some (r, hd') → ∀ (H : Heap) (locs : List Loc), va_P D vwCl (wModel k g s im fr hd nw hh qs qz it th hm ow lo) H → va_D (va_A (wModel k g s im fr hd_0 nw hh qs qz it th hm ow lo) ss.heap.size) (wModel k g s im fr hd nw hh qs qz it th hm ow lo) → va_S (va_A (wModel k g s im fr hd_0 nw hh qs qz it th hm ow lo) ss.heap.size) ss.heap H locs → ∀ ls : Array Slot, lv_has ls 7 [(0, .ref (g 0)), (1, .int x1), (2, .long x2), (4, .int x4), (5, .int x5), (6, .int x6)] → W pp l ee ({ frames := 5, cells := 0, slots := 0, locals := 109 } : Room) ss mm ([.ref (g 0), .int p1] : List Value).toArray bl me co H locs 0 0 (MQ bl (cQl D k (wModel k g s im fr hd_0 nw hh qs qz it th hm ow lo) ss.heap.size r (wModel k g s im fr hd' nw hh qs qz it th hm ow lo)) ([.ref (g 0), .int p1] : List Value).toArray ss 0 0 (va_A (wModel k g s im fr hd_0 nw hh qs qz it th hm ow lo) ss.heap.size)) (F0 mm 22 ls []) := by
        intro n22
        induction n22 with
        | zero =>
          intro x1 x2 x4 x5 x6 hd he
          exact absurd (show (none : Option (Int64 × (Nat → Int32))) = some (r, hd') from he) (by simp)
        | succ n22 ih22 =>
          intro x1 x2 x4 x5 x6 hd he H locs hP hD hS ls hl
          refine lv_iload hx hb dX8_aloneIn_22 (lv_at hl 5 rfl) ?_
          refine lv_bipush (v := 20) hx hb dX8_aloneIn_24 (by decide) ?_
          refine lv_icmp_ge (tgt := 66) hx hb dX8_aloneIn_26 (by decide) (fun c1 => ?_) (fun c1 => ?_)
          · have he := ifp he c1
            refine lv_lload_n hx hb dX8_aloneIn_66 rfl (lv_at hl 2 rfl) ?_
            refine lv_iload hx hb dX8_aloneIn_67 (lv_at hl 4 rfl) ?_
            refine lv_if_le (tgt := 99) hx hb dX8_aloneIn_69 (by decide) (fun c2 => ?_) (fun c2 => ?_)
            · have he := ifp he c2
              refine lv_lconst (v := 0) hx hb dX8_aloneIn_99 (by decide) ?_
              refine lv_ladd hx hb dX8_aloneIn_100 ?_
              refine lv_lstore_n (lv' := [(2, .long (x2 + 0)), (0, .ref (g 0)), (1, .int x1), (4, .int x4), (5, .int x5), (6, .int x6)]) hx hb dX8_aloneIn_101 rfl hl (by decide) rfl (fun ls hl => ?_)
              refine lv_iinc (v := (x4 + 1)) (lv' := [(4, .int (x4 + 1)), (2, .long (x2 + 0)), (0, .ref (g 0)), (1, .int x1), (5, .int x5), (6, .int x6)]) hx hb dX8_aloneIn_102 hl (k := 3) rfl rfl (by decide) rfl (fun ls hl => ?_)
              refine lv_goto (tgt := 9) hx hb dX8_aloneIn_105 (by decide) ?_
              exact ih9 x1 (x2 + 0) (x4 + 1) hd he H locs hP hD hS ls (lv_sub hl [2, 3, 1, 0] rfl)
            · have he := ifn he c2
              refine lv_iload hx hb dX8_aloneIn_72 (lv_at hl 4 rfl) ?_
              refine lv_aload_n hx hb dX8_aloneIn_74 rfl (lv_at hl 0 rfl) ?_
              refine va_get (D := D) (ci := 8) (v := .ref (g 4)) (C := RX8) (T := TX8) (N := 13) hx hb hts iX8 hown hK hP 0 rfl rfl 5 (by decide) w1 (fun _ h9 => h9) rfl dX8_aloneIn_75 ?_
              refine lv_iload hx hb dX8_aloneIn_78 (lv_at hl 3 rfl) ?_
              obtain ⟨h3, he⟩ := grd_i he
              refine va_iald hx hb hK hP 4 0 rfl rfl (ix_in h3) dX8_aloneIn_80 ?_
              refine lv_icmp_ne (tgt := 99) hx hb dX8_aloneIn_81 (by decide) (fun c4 => ?_) (fun c4 => ?_)
              · have he := ifn he c4
                refine lv_lconst (v := 0) hx hb dX8_aloneIn_99 (by decide) ?_
                refine lv_ladd hx hb dX8_aloneIn_100 ?_
                refine lv_lstore_n (lv' := [(2, .long (x2 + 0)), (0, .ref (g 0)), (1, .int x1), (4, .int x4), (5, .int x5), (6, .int x6)]) hx hb dX8_aloneIn_101 rfl hl (by decide) rfl (fun ls hl => ?_)
                refine lv_iinc (v := (x4 + 1)) (lv' := [(4, .int (x4 + 1)), (2, .long (x2 + 0)), (0, .ref (g 0)), (1, .int x1), (5, .int x5), (6, .int x6)]) hx hb dX8_aloneIn_102 hl (k := 3) rfl rfl (by decide) rfl (fun ls hl => ?_)
                refine lv_goto (tgt := 9) hx hb dX8_aloneIn_105 (by decide) ?_
                exact ih9 x1 (x2 + 0) (x4 + 1) hd he H locs hP hD hS ls (lv_sub hl [2, 3, 1, 0] rfl)
              · have he := ifp he c4
                refine lv_aload_n hx hb dX8_aloneIn_84 rfl (lv_at hl 0 rfl) ?_
                refine va_get (D := D) (ci := 8) (v := .ref (g 1)) (C := RX8) (T := TX8) (N := 13) hx hb hts iX8 hown hK hP 0 rfl rfl 1 (by decide) w2 (fun _ h9 => h9) rfl dX8_aloneIn_85 ?_
                refine lv_sipush (v := 362) hx hb dX8_aloneIn_88 (by decide) ?_
                refine lv_iload hx hb dX8_aloneIn_91 (lv_at hl 3 rfl) ?_
                refine lv_iadd hx hb dX8_aloneIn_93 ?_
                obtain ⟨h5, he⟩ := grd_i he
                refine va_iald hx hb hK hP 1 0 rfl rfl (ix_in h5) dX8_aloneIn_94 ?_
                refine lv_i2l (v := (Int32.toInt64 (s (Int32.toNatClampNeg (362 + x4))))) hx hb dX8_aloneIn_95 rfl ?_
                refine lv_goto (tgt := 100) hx hb dX8_aloneIn_96 (by decide) ?_
                refine lv_ladd hx hb dX8_aloneIn_100 ?_
                refine lv_lstore_n (lv' := [(2, .long (x2 + (Int32.toInt64 (s (Int32.toNatClampNeg (362 + x4)))))), (0, .ref (g 0)), (1, .int x1), (4, .int x4), (5, .int x5), (6, .int x6)]) hx hb dX8_aloneIn_101 rfl hl (by decide) rfl (fun ls hl => ?_)
                refine lv_iinc (v := (x4 + 1)) (lv' := [(4, .int (x4 + 1)), (2, .long (x2 + (Int32.toInt64 (s (Int32.toNatClampNeg (362 + x4)))))), (0, .ref (g 0)), (1, .int x1), (5, .int x5), (6, .int x6)]) hx hb dX8_aloneIn_102 hl (k := 3) rfl rfl (by decide) rfl (fun ls hl => ?_)
                refine lv_goto (tgt := 9) hx hb dX8_aloneIn_105 (by decide) ?_
                exact ih9 x1 (x2 + (Int32.toInt64 (s (Int32.toNatClampNeg (362 + x4))))) (x4 + 1) hd he H locs hP hD hS ls (lv_sub hl [2, 3, 1, 0] rfl)
          · have he := ifn he c1
            refine lv_iload hx hb dX8_aloneIn_29 (lv_at hl 4 rfl) ?_
            refine lv_iload_n hx hb dX8_aloneIn_31 rfl (lv_at hl 1 rfl) ?_
            refine lv_iload hx hb dX8_aloneIn_32 (lv_at hl 5 rfl) ?_
            refine lv_ishr hx hb dX8_aloneIn_34 ?_
            refine lv_iconst (v := 1) hx hb dX8_aloneIn_35 (by decide) ?_
            refine lv_iand hx hb dX8_aloneIn_36 ?_
            refine lv_iconst (v := 1) hx hb dX8_aloneIn_37 (by decide) ?_
            refine lv_icmp_ne (tgt := 56) hx hb dX8_aloneIn_38 (by decide) (fun c6 => ?_) (fun c6 => ?_)
            · have he := ifn he c6
              refine lv_iconst (v := 0) hx hb dX8_aloneIn_56 (by decide) ?_
              refine lv_iadd hx hb dX8_aloneIn_57 ?_
              refine lv_istore (lv' := [(5, .int (x5 + 0)), (0, .ref (g 0)), (1, .int x1), (2, .long x2), (4, .int x4), (6, .int x6)]) hx hb dX8_aloneIn_58 hl (by decide) rfl (fun ls hl => ?_)
              refine lv_iinc (v := (x6 + 1)) (lv' := [(6, .int (x6 + 1)), (5, .int (x5 + 0)), (0, .ref (g 0)), (1, .int x1), (2, .long x2), (4, .int x4)]) hx hb dX8_aloneIn_60 hl (k := 5) rfl rfl (by decide) rfl (fun ls hl => ?_)
              refine lv_goto (tgt := 22) hx hb dX8_aloneIn_63 (by decide) ?_
              exact ih22 x1 x2 x4 (x5 + 0) (x6 + 1) hd he H locs hP hD hS ls (lv_sub hl [2, 3, 4, 5, 1, 0] rfl)
            · have he := ifp he c6
              refine lv_aload_n hx hb dX8_aloneIn_41 rfl (lv_at hl 0 rfl) ?_
              refine lv_iload hx hb dX8_aloneIn_42 (lv_at hl 5 rfl) ?_
              refine lv_iload hx hb dX8_aloneIn_44 (lv_at hl 3 rfl) ?_
              obtain ⟨v7, h8, he⟩ := bn1_i he
              refine cVir (As := [.int x6, .int x4]) (rest := [.int x5]) ⟨hx, hb, hml, hown, hts⟩ hK hA hP hD hS (mX8_isHeld l D k g (s := s) (im := im) (fr := fr) (hd := hd) (nw := nw) (hh := hh) (qs := qs) (qz := qz) (it := it) (th := th) (hm := hm) (ow := ow) (lo := lo) h8) (cwV 2 hts gX8_aloneIn_X8_isHeld rfl rfl rfl kX8_isHeld ⟨Nat.le_of_ble_eq_true rfl, Nat.le_of_ble_eq_true rfl⟩) [0, 1, 2, 3, 4, 5, 6, 7, 8, 9] rfl rfl 0 rfl rfl rfl hl.1 rfl (Nat.le_of_ble_eq_true rfl) ⟨Nat.le_refl 0, Nat.le_refl 0⟩ dX8_aloneIn_46 (fun H locs hP hD hS => ?_)
              refine lv_if_eq (tgt := 56) hx hb dX8_aloneIn_49 (by decide) (fun c9 => ?_) (fun c9 => ?_)
              · have he := ifp he c9
                refine lv_iconst (v := 0) hx hb dX8_aloneIn_56 (by decide) ?_
                refine lv_iadd hx hb dX8_aloneIn_57 ?_
                refine lv_istore (lv' := [(5, .int (x5 + 0)), (0, .ref (g 0)), (1, .int x1), (2, .long x2), (4, .int x4), (6, .int x6)]) hx hb dX8_aloneIn_58 hl (by decide) rfl (fun ls hl => ?_)
                refine lv_iinc (v := (x6 + 1)) (lv' := [(6, .int (x6 + 1)), (5, .int (x5 + 0)), (0, .ref (g 0)), (1, .int x1), (2, .long x2), (4, .int x4)]) hx hb dX8_aloneIn_60 hl (k := 5) rfl rfl (by decide) rfl (fun ls hl => ?_)
                refine lv_goto (tgt := 22) hx hb dX8_aloneIn_63 (by decide) ?_
                exact ih22 x1 x2 x4 (x5 + 0) (x6 + 1) hd he H locs hP hD hS ls (lv_sub hl [2, 3, 4, 5, 1, 0] rfl)
              · have he := ifn he c9
                refine lv_iconst (v := 1) hx hb dX8_aloneIn_52 (by decide) ?_
                refine lv_goto (tgt := 57) hx hb dX8_aloneIn_53 (by decide) ?_
                refine lv_iadd hx hb dX8_aloneIn_57 ?_
                refine lv_istore (lv' := [(5, .int (x5 + 1)), (0, .ref (g 0)), (1, .int x1), (2, .long x2), (4, .int x4), (6, .int x6)]) hx hb dX8_aloneIn_58 hl (by decide) rfl (fun ls hl => ?_)
                refine lv_iinc (v := (x6 + 1)) (lv' := [(6, .int (x6 + 1)), (5, .int (x5 + 1)), (0, .ref (g 0)), (1, .int x1), (2, .long x2), (4, .int x4)]) hx hb dX8_aloneIn_60 hl (k := 5) rfl rfl (by decide) rfl (fun ls hl => ?_)
                refine lv_goto (tgt := 22) hx hb dX8_aloneIn_63 (by decide) ?_
                exact ih22 x1 x2 x4 (x5 + 1) (x6 + 1) hd he H locs hP hD hS ls (lv_sub hl [2, 3, 4, 5, 1, 0] rfl)
      intro x1 x2 x4 hd he H locs hP hD hS ls hl
      refine lv_iload hx hb dX8_aloneIn_9 (lv_at hl 3 rfl) ?_
      refine lv_bipush (v := 96) hx hb dX8_aloneIn_11 (by decide) ?_
      refine lv_icmp_ge (tgt := 108) hx hb dX8_aloneIn_13 (by decide) (fun c10 => ?_) (fun c10 => ?_)
      · have he := ifp he c10
        refine lv_lload_n hx hb dX8_aloneIn_108 rfl (lv_at hl 2 rfl) ?_
        obtain ⟨rfl, rfl⟩ := some2 he
        exact cRl hx hb hr hlk hK hP hD hS dX8_aloneIn_109
      · have he := ifn he c10
        refine lv_iconst (v := 0) hx hb dX8_aloneIn_16 (by decide) ?_
        refine lv_istore (lv' := [(5, .int 0), (0, .ref (g 0)), (1, .int x1), (2, .long x2), (4, .int x4)]) hx hb dX8_aloneIn_17 hl (by decide) rfl (fun ls hl => ?_)
        refine lv_iconst (v := 0) hx hb dX8_aloneIn_19 (by decide) ?_
        refine lv_istore (lv' := [(6, .int 0), (5, .int 0), (0, .ref (g 0)), (1, .int x1), (2, .long x2), (4, .int x4)]) hx hb dX8_aloneIn_20 hl (by decide) rfl (fun ls hl => ?_)
        exact B22 600 x1 x2 x4 0 0 hd he H locs hP hD hS ls (lv_sub hl [2, 3, 4, 5, 1, 0] rfl)
  have hS0 := hS
  have key : ∀ (H : Heap) (locs : List Loc), H = ss.heap → locs = [] → va_P D vwCl (wModel k g s im fr hd_0 nw hh qs qz it th hm ow lo) H → va_S (va_A (wModel k g s im fr hd_0 nw hh qs qz it th hm ow lo) ss.heap.size) ss.heap H locs → W pp l ee ({ frames := 5, cells := 0, slots := 0, locals := 109 } : Room) ss mm ([.ref (g 0), .int p1] : List Value).toArray bl me co H locs 0 0 (MQ bl (cQl D k (wModel k g s im fr hd_0 nw hh qs qz it th hm ow lo) ss.heap.size r (wModel k g s im fr hd' nw hh qs qz it th hm ow lo)) ([.ref (g 0), .int p1] : List Value).toArray ss 0 0 (va_A (wModel k g s im fr hd_0 nw hh qs qz it th hm ow lo) ss.heap.size)) (F0 mm 0 ls []) := by
    intro H locs _ _ hP hS
    refine lv_aload_n hx hb dX8_aloneIn_0 rfl (lv_at hl 0 rfl) ?_
    obtain ⟨hd1001, h1002, he⟩ := bn1_i he
    refine cVv (wf := (wModel k g s im fr hd1001 nw hh qs qz it th hm ow lo)) (As := []) (rest := []) ⟨hx, hb, hml, hown, hts⟩ hK hA hP hD hS (mX8_counts l D k g (s := s) (im := im) (fr := fr) (hd_0 := hd_0) (nw := nw) (hh := hh) (qs := qs) (qz := qz) (it := it) (th := th) (hm := hm) (ow := ow) (lo := lo) h1002) (cwV 0 hts gX8_aloneIn_X8_counts rfl rfl rfl kX8_counts ⟨Nat.le_of_ble_eq_true rfl, Nat.le_of_ble_eq_true rfl⟩) [0, 1, 2, 3, 4, 5, 6, 7, 8, 9] rfl rfl rfl [false, false, false, false, false, false, false, false, false, false] trivial 10 rfl (by decide +kernel) rfl 0 rfl rfl rfl hl.1 rfl (Nat.le_of_ble_eq_true rfl) ⟨Nat.le_refl 0, Nat.le_refl 0⟩ dX8_aloneIn_1 (fun H locs hP hD hS => ?_)
    refine lv_lconst (v := 0) hx hb dX8_aloneIn_4 (by decide) ?_
    refine lv_lstore_n (lv' := [(2, .long 0), (0, .ref (g 0)), (1, .int p1)]) hx hb dX8_aloneIn_5 rfl hl (by decide) rfl (fun ls hl => ?_)
    refine lv_iconst (v := 0) hx hb dX8_aloneIn_6 (by decide) ?_
    refine lv_istore (lv' := [(4, .int 0), (2, .long 0), (0, .ref (g 0)), (1, .int p1)]) hx hb dX8_aloneIn_7 hl (by decide) rfl (fun ls hl => ?_)
    exact B9 600 p1 0 0 hd1001 he H locs hP hD hS ls (lv_sub hl [2, 3, 1, 0] rfl)
  exact key ss.heap [] rfl rfl hP hS
theorem kX8_alone : yX8_alone.cls = RX8 ∧ yX8_alone.cls ≠ "java/lang/invoke/MethodHandle" ∧ yX8_alone.cls ≠ "java/lang/invoke/VarHandle" ∧ (parseMethodDescriptor yX8_alone.desc).map (fun d => d.parameters.length) = some 1 := by decide +kernel
set_option maxRecDepth 100000 in
set_option maxHeartbeats 4000000 in
theorem mX8_alone (l : Launch) (D : va_G) (k : Nat → ClassId) (g : Nat → Nat) {s : Nat → Int32} {im : Nat → Int32} {fr : Nat → Int32} {hd_0 : Nat → Int32} {nw : Nat → Int32} {hh : Nat → Int32} {qs : Nat → Int32} {qz : Nat → Int32} {it : Nat → Int64} {th : Int32} {hm : Int32} {ow : Int32} {lo : Int32} {p1 : Int32} {r : Int64} {hd' : Nat → Int32} (he : xX8_alone s hd_0 p1 = some (r, hd')) : CtL l D k yX8_alone wsX8_alone ({ frames := 6, cells := 0, slots := 0, locals := 135 } : Room) [.ref (g 0), .int p1] (wModel k g s im fr hd_0 nw hh qs qz it th hm ow lo) r (wModel k g s im fr hd' nw hh qs qz it th hm ow lo) := by
  intro sz9
  refine cSt (lv := [(0, .ref (g 0)), (1, .int p1)]) (own := RX8) (cc := cX8_alone) (nL := 2) (ret := (some .long)) (by decide +kernel) rfl rfl (Nat.le_of_ble_eq_true rfl) rfl ?_
  intro pp ee ss mm bl me co hsz hC0 hP hD hS ls hl
  subst hsz
  obtain ⟨hx, hb, hr, hml, hown, hts, hK, hlk⟩ := hC0
  have hA : ∀ q, ss.heap.size ≤ q → va_A (wModel k g s im fr hd_0 nw hh qs qz it th hm ow lo) ss.heap.size q := fun q h => Or.inr h
  have w1 := hts (.constantLong RX8 134 (-4611686018427387904)) (List.mem_of_getElem? (i := 1) rfl)
  have hS0 := hS
  have key : ∀ (H : Heap) (locs : List Loc), H = ss.heap → locs = [] → va_P D vwCl (wModel k g s im fr hd_0 nw hh qs qz it th hm ow lo) H → va_S (va_A (wModel k g s im fr hd_0 nw hh qs qz it th hm ow lo) ss.heap.size) ss.heap H locs → W pp l ee ({ frames := 6, cells := 0, slots := 0, locals := 135 } : Room) ss mm ([.ref (g 0), .int p1] : List Value).toArray bl me co H locs 0 0 (MQ bl (cQl D k (wModel k g s im fr hd_0 nw hh qs qz it th hm ow lo) ss.heap.size r (wModel k g s im fr hd' nw hh qs qz it th hm ow lo)) ([.ref (g 0), .int p1] : List Value).toArray ss 0 0 (va_A (wModel k g s im fr hd_0 nw hh qs qz it th hm ow lo) ss.heap.size)) (F0 mm 0 ls []) := by
    intro H locs _ _ hP hS
    refine lv_aload_n hx hb dX8_alone_0 rfl (lv_at hl 0 rfl) ?_
    refine lv_iload_n hx hb dX8_alone_1 rfl (lv_at hl 1 rfl) ?_
    obtain ⟨v1001, h1002, he⟩ := bn1_i he
    refine cVir (As := [.int p1]) (rest := []) ⟨hx, hb, hml, hown, hts⟩ hK hA hP hD hS (mX8_hasSlots l D k g (s := s) (im := im) (fr := fr) (hd := hd_0) (nw := nw) (hh := hh) (qs := qs) (qz := qz) (it := it) (th := th) (hm := hm) (ow := ow) (lo := lo) h1002) (cwV 1 hts gX8_alone_X8_hasSlots rfl rfl rfl kX8_hasSlots ⟨Nat.le_of_ble_eq_true rfl, Nat.le_of_ble_eq_true rfl⟩) [0, 1, 2, 3, 4, 5, 6, 7, 8, 9] rfl rfl 0 rfl rfl rfl hl.1 rfl (Nat.le_of_ble_eq_true rfl) ⟨Nat.le_refl 0, Nat.le_refl 0⟩ dX8_alone_2 (fun H locs hP hD hS => ?_)
    refine lv_if_eq (tgt := 18) hx hb dX8_alone_5 (by decide) (fun c1003 => ?_) (fun c1003 => ?_)
    · have he := ifp he c1003
      refine lv_ldc2 hx hb hown w1 dX8_alone_18 ?_
      obtain ⟨rfl, rfl⟩ := some2 he
      exact cRl hx hb hr hlk hK hP hD hS dX8_alone_21
    · have he := ifn he c1003
      refine lv_aload_n hx hb dX8_alone_8 rfl (lv_at hl 0 rfl) ?_
      refine lv_iconst (v := 1) hx hb dX8_alone_9 (by decide) ?_
      refine lv_iload_n hx hb dX8_alone_10 rfl (lv_at hl 1 rfl) ?_
      refine lv_ishl hx hb dX8_alone_11 ?_
      obtain ⟨v1004, hd1005, h1006, he⟩ := bn2_i he
      refine cVl (wf := (wModel k g s im fr hd1005 nw hh qs qz it th hm ow lo)) (As := [.int (1 <<< (p1 &&& 31))]) (rest := []) ⟨hx, hb, hml, hown, hts⟩ hK hA hP hD hS (mX8_aloneIn l D k g (s := s) (im := im) (fr := fr) (hd_0 := hd_0) (nw := nw) (hh := hh) (qs := qs) (qz := qz) (it := it) (th := th) (hm := hm) (ow := ow) (lo := lo) h1006) (cwV 1 hts gX8_alone_X8_aloneIn rfl rfl rfl kX8_aloneIn ⟨Nat.le_of_ble_eq_true rfl, Nat.le_of_ble_eq_true rfl⟩) [0, 1, 2, 3, 4, 5, 6, 7, 8, 9] rfl rfl rfl [false, false, false, false, false, false, false, false, false, false] trivial 10 rfl (by decide +kernel) rfl 0 rfl rfl rfl hl.1 rfl (Nat.le_of_ble_eq_true rfl) ⟨Nat.le_refl 0, Nat.le_refl 0⟩ dX8_alone_12 (fun H locs hP hD hS => ?_)
      refine lv_goto (tgt := 21) hx hb dX8_alone_15 (by decide) ?_
      obtain ⟨rfl, rfl⟩ := some2 he
      exact cRl hx hb hr hlk hK hP hD hS dX8_alone_21
  exact key ss.heap [] rfl rfl hP hS
theorem kX8_range : yX8_range.cls = RX8 ∧ yX8_range.cls ≠ "java/lang/invoke/MethodHandle" ∧ yX8_range.cls ≠ "java/lang/invoke/VarHandle" ∧ (parseMethodDescriptor yX8_range.desc).map (fun d => d.parameters.length) = some 2 := by decide +kernel
set_option maxRecDepth 100000 in
set_option maxHeartbeats 4000000 in
theorem mX8_range (l : Launch) (D : va_G) (k : Nat → ClassId) (g : Nat → Nat) {s : Nat → Int32} {im : Nat → Int32} {fr : Nat → Int32} {hd_0 : Nat → Int32} {nw : Nat → Int32} {hh : Nat → Int32} {qs : Nat → Int32} {qz : Nat → Int32} {it : Nat → Int64} {th : Int32} {hm : Int32} {ow : Int32} {lo : Int32} {p1 : Int32} {p2 : Int32} {r : Int64} {hd' : Nat → Int32} (he : xX8_range s hd_0 p1 p2 = some (r, hd')) : CtL l D k yX8_range wsX8_range ({ frames := 6, cells := 0, slots := 0, locals := 135 } : Room) [.ref (g 0), .int p1, .int p2] (wModel k g s im fr hd_0 nw hh qs qz it th hm ow lo) r (wModel k g s im fr hd' nw hh qs qz it th hm ow lo) := by
  intro sz9
  refine cSt (lv := [(0, .ref (g 0)), (1, .int p1), (2, .int p2)]) (own := RX8) (cc := cX8_range) (nL := 5) (ret := (some .long)) (by decide +kernel) rfl rfl (Nat.le_of_ble_eq_true rfl) rfl ?_
  intro pp ee ss mm bl me co hsz hC0 hP hD hS ls hl
  subst hsz
  obtain ⟨hx, hb, hr, hml, hown, hts, hK, hlk⟩ := hC0
  have hA : ∀ q, ss.heap.size ≤ q → va_A (wModel k g s im fr hd_0 nw hh qs qz it th hm ow lo) ss.heap.size q := fun q h => Or.inr h
  have w1 := hts (.constantLong RX8 134 (-4611686018427387904)) (List.mem_of_getElem? (i := 1) rfl)
  have iX8 : ∀ w ∈ wsX80, w ∈ wsX8_range := fun _ h => List.mem_cons_of_mem _ (List.mem_append_right _ h)
  have w2 := hts (.fieldLink RX8 7 "DeadListPoolModel" "s" "[I") (List.mem_of_getElem? (i := 2) rfl)
  have B59 : ∀ (x1 : Int32) (x3 : Int32) (x4 : Int32) (hd : Nat → Int32), xX8_range_59 s x1 x3 x4 hd = some (r, hd') → ∀ (H : Heap) (locs : List Loc), va_P D vwCl (wModel k g s im fr hd nw hh qs qz it th hm ow lo) H → va_D (va_A (wModel k g s im fr hd_0 nw hh qs qz it th hm ow lo) ss.heap.size) (wModel k g s im fr hd nw hh qs qz it th hm ow lo) → va_S (va_A (wModel k g s im fr hd_0 nw hh qs qz it th hm ow lo) ss.heap.size) ss.heap H locs → ∀ ls : Array Slot, lv_has ls 5 [(0, .ref (g 0)), (1, .int x1), (3, .int x3), (4, .int x4)] → W pp l ee ({ frames := 6, cells := 0, slots := 0, locals := 135 } : Room) ss mm ([.ref (g 0), .int p1, .int p2] : List Value).toArray bl me co H locs 0 0 (MQ bl (cQl D k (wModel k g s im fr hd_0 nw hh qs qz it th hm ow lo) ss.heap.size r (wModel k g s im fr hd' nw hh qs qz it th hm ow lo)) ([.ref (g 0), .int p1, .int p2] : List Value).toArray ss 0 0 (va_A (wModel k g s im fr hd_0 nw hh qs qz it th hm ow lo) ss.heap.size)) (F0 mm 59 ls []) := by
    intro x1 x3 x4 hd he H locs hP hD hS ls hl
    refine lv_iload hx hb dX8_range_59 (lv_at hl 3 rfl) ?_
    refine lv_iconst (v := (-1)) hx hb dX8_range_61 (by decide) ?_
    refine lv_icmp_ne (tgt := 71) hx hb dX8_range_62 (by decide) (fun c1 => ?_) (fun c1 => ?_)
    · have he := ifn he c1
      refine lv_aload_n hx hb dX8_range_71 rfl (lv_at hl 0 rfl) ?_
      refine lv_iload_n hx hb dX8_range_72 rfl (lv_at hl 2 rfl) ?_
      refine lv_iconst (v := 1) hx hb dX8_range_73 (by decide) ?_
      refine lv_iload_n hx hb dX8_range_74 rfl (lv_at hl 1 rfl) ?_
      refine lv_ishl hx hb dX8_range_75 ?_
      refine lv_ior hx hb dX8_range_76 ?_
      obtain ⟨v2, hd3, h4, he⟩ := bn2_i he
      refine cVl (wf := (wModel k g s im fr hd3 nw hh qs qz it th hm ow lo)) (As := [.int (x3 ||| (1 <<< (x1 &&& 31)))]) (rest := []) ⟨hx, hb, hml, hown, hts⟩ hK hA hP hD hS (mX8_aloneIn l D k g (s := s) (im := im) (fr := fr) (hd_0 := hd) (nw := nw) (hh := hh) (qs := qs) (qz := qz) (it := it) (th := th) (hm := hm) (ow := ow) (lo := lo) h4) (cwV 1 hts gX8_range_X8_aloneIn rfl rfl rfl kX8_aloneIn ⟨Nat.le_of_ble_eq_true rfl, Nat.le_of_ble_eq_true rfl⟩) [0, 1, 2, 3, 4, 5, 6, 7, 8, 9] rfl rfl rfl [false, false, false, false, false, false, false, false, false, false] trivial 10 rfl (by decide +kernel) rfl 0 rfl rfl rfl hl.1 rfl (Nat.le_of_ble_eq_true rfl) ⟨Nat.le_refl 0, Nat.le_refl 0⟩ dX8_range_77 (fun H locs hP hD hS => ?_)
      obtain ⟨rfl, rfl⟩ := some2 he
      exact cRl hx hb hr hlk hK hP hD hS dX8_range_80
    · have he := ifp he c1
      refine lv_ldc2 hx hb hown w1 dX8_range_65 ?_
      refine lv_goto (tgt := 80) hx hb dX8_range_68 (by decide) ?_
      obtain ⟨rfl, rfl⟩ := some2 he
      exact cRl hx hb hr hlk hK hP hD hS dX8_range_80
  have B25 : ∀ (n25 : Nat) (x1 : Int32) (x3 : Int32) (x4 : Int32) (hd : Nat → Int32), xX8_range_25 s n25 x1 x3 x4 hd = some (r, hd') → ∀ (H : Heap) (locs : List Loc), va_P D vwCl (wModel k g s im fr hd nw hh qs qz it th hm ow lo) H → va_D (va_A (wModel k g s im fr hd_0 nw hh qs qz it th hm ow lo) ss.heap.size) (wModel k g s im fr hd nw hh qs qz it th hm ow lo) → va_S (va_A (wModel k g s im fr hd_0 nw hh qs qz it th hm ow lo) ss.heap.size) ss.heap H locs → ∀ ls : Array Slot, lv_has ls 5 [(0, .ref (g 0)), (1, .int x1), (3, .int x3), (4, .int x4)] → W pp l ee ({ frames := 6, cells := 0, slots := 0, locals := 135 } : Room) ss mm ([.ref (g 0), .int p1, .int p2] : List Value).toArray bl me co H locs 0 0 (MQ bl (cQl D k (wModel k g s im fr hd_0 nw hh qs qz it th hm ow lo) ss.heap.size r (wModel k g s im fr hd' nw hh qs qz it th hm ow lo)) ([.ref (g 0), .int p1, .int p2] : List Value).toArray ss 0 0 (va_A (wModel k g s im fr hd_0 nw hh qs qz it th hm ow lo) ss.heap.size)) (F0 mm 25 ls []) := by
    intro n25
    induction n25 with
    | zero =>
      intro x1 x3 x4 hd he
      exact absurd (show (none : Option (Int64 × (Nat → Int32))) = some (r, hd') from he) (by simp)
    | succ n25 ih25 =>
      intro x1 x3 x4 hd he H locs hP hD hS ls hl
      refine lv_iload hx hb dX8_range_25 (lv_at hl 3 rfl) ?_
      refine lv_iconst (v := (-1)) hx hb dX8_range_27 (by decide) ?_
      refine lv_icmp_eq (tgt := 59) hx hb dX8_range_28 (by decide) (fun c5 => ?_) (fun c5 => ?_)
      · have he := ifp he c5
        exact B59 x1 x3 x4 hd he H locs hP hD hS ls (lv_sub hl [0, 1, 2, 3] rfl)
      · have he := ifn he c5
        refine lv_iload hx hb dX8_range_31 (lv_at hl 3 rfl) ?_
        refine lv_iload_n hx hb dX8_range_33 rfl (lv_at hl 1 rfl) ?_
        refine lv_icmp_eq (tgt := 59) hx hb dX8_range_34 (by decide) (fun c6 => ?_) (fun c6 => ?_)
        · have he := ifp he c6
          exact B59 x1 x3 x4 hd he H locs hP hD hS ls (lv_sub hl [0, 1, 2, 3] rfl)
        · have he := ifn he c6
          refine lv_iload_n hx hb dX8_range_37 rfl (lv_at hl 2 rfl) ?_
          refine lv_iconst (v := 1) hx hb dX8_range_38 (by decide) ?_
          refine lv_iload hx hb dX8_range_39 (lv_at hl 3 rfl) ?_
          refine lv_ishl hx hb dX8_range_41 ?_
          refine lv_ior hx hb dX8_range_42 ?_
          refine lv_istore_n (lv' := [(3, .int (x3 ||| (1 <<< (x4 &&& 31)))), (0, .ref (g 0)), (1, .int x1), (4, .int x4)]) hx hb dX8_range_43 rfl hl (by decide) rfl (fun ls hl => ?_)
          refine lv_aload_n hx hb dX8_range_44 rfl (lv_at hl 1 rfl) ?_
          refine va_get (D := D) (ci := 8) (v := .ref (g 1)) (C := RX8) (T := TX8) (N := 13) hx hb hts iX8 hown hK hP 0 rfl rfl 1 (by decide) w2 (fun _ h9 => h9) rfl dX8_range_45 ?_
          refine lv_bipush (v := 42) hx hb dX8_range_48 (by decide) ?_
          refine lv_iload hx hb dX8_range_50 (lv_at hl 3 rfl) ?_
          refine lv_iadd hx hb dX8_range_52 ?_
          obtain ⟨h7, he⟩ := grd_i he
          refine va_iald hx hb hK hP 1 0 rfl rfl (ix_in h7) dX8_range_53 ?_
          refine lv_istore (lv' := [(4, .int (s (Int32.toNatClampNeg (42 + x4)))), (3, .int (x3 ||| (1 <<< (x4 &&& 31)))), (0, .ref (g 0)), (1, .int x1)]) hx hb dX8_range_54 hl (by decide) rfl (fun ls hl => ?_)
          refine lv_goto (tgt := 25) hx hb dX8_range_56 (by decide) ?_
          exact ih25 x1 (x3 ||| (1 <<< (x4 &&& 31))) (s (Int32.toNatClampNeg (42 + x4))) hd he H locs hP hD hS ls (lv_sub hl [2, 3, 1, 0] rfl)
  have hS0 := hS
  have key : ∀ (H : Heap) (locs : List Loc), H = ss.heap → locs = [] → va_P D vwCl (wModel k g s im fr hd_0 nw hh qs qz it th hm ow lo) H → va_S (va_A (wModel k g s im fr hd_0 nw hh qs qz it th hm ow lo) ss.heap.size) ss.heap H locs → W pp l ee ({ frames := 6, cells := 0, slots := 0, locals := 135 } : Room) ss mm ([.ref (g 0), .int p1, .int p2] : List Value).toArray bl me co H locs 0 0 (MQ bl (cQl D k (wModel k g s im fr hd_0 nw hh qs qz it th hm ow lo) ss.heap.size r (wModel k g s im fr hd' nw hh qs qz it th hm ow lo)) ([.ref (g 0), .int p1, .int p2] : List Value).toArray ss 0 0 (va_A (wModel k g s im fr hd_0 nw hh qs qz it th hm ow lo) ss.heap.size)) (F0 mm 0 ls []) := by
    intro H locs _ _ hP hS
    refine lv_aload_n hx hb dX8_range_0 rfl (lv_at hl 0 rfl) ?_
    refine lv_iload_n hx hb dX8_range_1 rfl (lv_at hl 1 rfl) ?_
    obtain ⟨v1001, h1002, he⟩ := bn1_i he
    refine cVir (As := [.int p1]) (rest := []) ⟨hx, hb, hml, hown, hts⟩ hK hA hP hD hS (mX8_isSnapshot l D k g (s := s) (im := im) (fr := fr) (hd := hd_0) (nw := nw) (hh := hh) (qs := qs) (qz := qz) (it := it) (th := th) (hm := hm) (ow := ow) (lo := lo) h1002) (cwV 1 hts gX8_range_X8_isSnapshot rfl rfl rfl kX8_isSnapshot ⟨Nat.le_of_ble_eq_true rfl, Nat.le_of_ble_eq_true rfl⟩) [0, 1, 2, 3, 4, 5, 6, 7, 8, 9] rfl rfl 0 rfl rfl rfl hl.1 rfl (Nat.le_of_ble_eq_true rfl) ⟨Nat.le_refl 0, Nat.le_refl 0⟩ dX8_range_2 (fun H locs hP hD hS => ?_)
    refine lv_if_eq (tgt := 16) hx hb dX8_range_5 (by decide) (fun c1003 => ?_) (fun c1003 => ?_)
    · have he := ifp he c1003
      refine lv_ldc2 hx hb hown w1 dX8_range_16 ?_
      obtain ⟨rfl, rfl⟩ := some2 he
      exact cRl hx hb hr hlk hK hP hD hS dX8_range_19
    · have he := ifn he c1003
      refine lv_aload_n hx hb dX8_range_8 rfl (lv_at hl 0 rfl) ?_
      refine lv_iload_n hx hb dX8_range_9 rfl (lv_at hl 2 rfl) ?_
      obtain ⟨v1004, h1005, he⟩ := bn1_i he
      refine cVir (As := [.int p2]) (rest := []) ⟨hx, hb, hml, hown, hts⟩ hK hA hP hD hS (mX8_isSnapshot l D k g (s := s) (im := im) (fr := fr) (hd := hd_0) (nw := nw) (hh := hh) (qs := qs) (qz := qz) (it := it) (th := th) (hm := hm) (ow := ow) (lo := lo) h1005) (cwV 1 hts gX8_range_X8_isSnapshot rfl rfl rfl kX8_isSnapshot ⟨Nat.le_of_ble_eq_true rfl, Nat.le_of_ble_eq_true rfl⟩) [0, 1, 2, 3, 4, 5, 6, 7, 8, 9] rfl rfl 0 rfl rfl rfl hl.1 rfl (Nat.le_of_ble_eq_true rfl) ⟨Nat.le_refl 0, Nat.le_refl 0⟩ dX8_range_10 (fun H locs hP hD hS => ?_)
      refine lv_if_ne (tgt := 20) hx hb dX8_range_13 (by decide) (fun c1006 => ?_) (fun c1006 => ?_)
      · have he := ifn he c1006
        refine lv_iconst (v := 0) hx hb dX8_range_20 (by decide) ?_
        refine lv_istore_n (lv' := [(3, .int 0), (0, .ref (g 0)), (1, .int p1), (2, .int p2)]) hx hb dX8_range_21 rfl hl (by decide) rfl (fun ls hl => ?_)
        refine lv_iload_n hx hb dX8_range_22 rfl (lv_at hl 3 rfl) ?_
        refine lv_istore (lv' := [(4, .int p2), (3, .int 0), (0, .ref (g 0)), (1, .int p1), (2, .int p2)]) hx hb dX8_range_23 hl (by decide) rfl (fun ls hl => ?_)
        exact B25 600 p1 0 p2 hd_0 he H locs hP hD hS ls (lv_sub hl [2, 3, 1, 0] rfl)
      · have he := ifp he c1006
        refine lv_ldc2 hx hb hown w1 dX8_range_16 ?_
        obtain ⟨rfl, rfl⟩ := some2 he
        exact cRl hx hb hr hlk hK hP hD hS dX8_range_19
  exact key ss.heap [] rfl rfl hP hS
theorem kX8_since : yX8_since.cls = RX8 ∧ yX8_since.cls ≠ "java/lang/invoke/MethodHandle" ∧ yX8_since.cls ≠ "java/lang/invoke/VarHandle" ∧ (parseMethodDescriptor yX8_since.desc).map (fun d => d.parameters.length) = some 2 := by decide +kernel
set_option maxRecDepth 100000 in
set_option maxHeartbeats 4000000 in
theorem mX8_since (l : Launch) (D : va_G) (k : Nat → ClassId) (g : Nat → Nat) {s : Nat → Int32} {im : Nat → Int32} {fr : Nat → Int32} {hd : Nat → Int32} {nw : Nat → Int32} {hh : Nat → Int32} {qs : Nat → Int32} {qz : Nat → Int32} {it : Nat → Int64} {th : Int32} {hm : Int32} {ow : Int32} {lo : Int32} {p1 : Int32} {p2 : Int32} {r : Int64}  (he : xX8_since s p1 p2 = some r) : CtL l D k yX8_since wsX8_since ({ frames := 4, cells := 0, slots := 0, locals := 85 } : Room) [.ref (g 0), .int p1, .int p2] (wModel k g s im fr hd nw hh qs qz it th hm ow lo) r (wModel k g s im fr hd nw hh qs qz it th hm ow lo) := by
  intro sz9
  refine cSt (lv := [(0, .ref (g 0)), (1, .int p1), (2, .int p2)]) (own := RX8) (cc := cX8_since) (nL := 7) (ret := (some .long)) (by decide +kernel) rfl rfl (Nat.le_of_ble_eq_true rfl) rfl ?_
  intro pp ee ss mm bl me co hsz hC0 hP hD hS ls hl
  subst hsz
  obtain ⟨hx, hb, hr, hml, hown, hts, hK, hlk⟩ := hC0
  have hA : ∀ q, ss.heap.size ≤ q → va_A (wModel k g s im fr hd nw hh qs qz it th hm ow lo) ss.heap.size q := fun q h => Or.inr h
  have iX8 : ∀ w ∈ wsX80, w ∈ wsX8_since := fun _ h => List.mem_cons_of_mem _ (List.mem_append_right _ h)
  have w2 := hts (.fieldLink RX8 7 "DeadListPoolModel" "s" "[I") (List.mem_of_getElem? (i := 2) rfl)
  have w1 := hts (.constantLong RX8 134 (-4611686018427387904)) (List.mem_of_getElem? (i := 1) rfl)
  have B25 : ∀ (n25 : Nat) (x1 : Int32) (x2 : Int32) (x3 : Int64) (x5 : Int32), xX8_since_25 s n25 x1 x2 x3 x5 = some r → ∀ (H : Heap) (locs : List Loc), va_P D vwCl (wModel k g s im fr hd nw hh qs qz it th hm ow lo) H → va_D (va_A (wModel k g s im fr hd nw hh qs qz it th hm ow lo) ss.heap.size) (wModel k g s im fr hd nw hh qs qz it th hm ow lo) → va_S (va_A (wModel k g s im fr hd nw hh qs qz it th hm ow lo) ss.heap.size) ss.heap H locs → ∀ ls : Array Slot, lv_has ls 7 [(0, .ref (g 0)), (1, .int x1), (2, .int x2), (3, .long x3), (5, .int x5)] → W pp l ee ({ frames := 4, cells := 0, slots := 0, locals := 85 } : Room) ss mm ([.ref (g 0), .int p1, .int p2] : List Value).toArray bl me co H locs 0 0 (MQ bl (cQl D k (wModel k g s im fr hd nw hh qs qz it th hm ow lo) ss.heap.size r (wModel k g s im fr hd nw hh qs qz it th hm ow lo)) ([.ref (g 0), .int p1, .int p2] : List Value).toArray ss 0 0 (va_A (wModel k g s im fr hd nw hh qs qz it th hm ow lo) ss.heap.size)) (F0 mm 25 ls []) := by
    intro n25
    induction n25 with
    | zero =>
      intro x1 x2 x3 x5 he
      exact absurd (show (none : Option (Int64)) = some r from he) (by simp)
    | succ n25 ih25 =>
      intro x1 x2 x3 x5 he H locs hP hD hS ls hl
      refine lv_iload hx hb dX8_since_25 (lv_at hl 4 rfl) ?_
      refine lv_bipush (v := 12) hx hb dX8_since_27 (by decide) ?_
      refine lv_icmp_ge (tgt := 103) hx hb dX8_since_29 (by decide) (fun c1 => ?_) (fun c1 => ?_)
      · have he := ifp he c1
        refine lv_lload_n hx hb dX8_since_103 rfl (lv_at hl 3 rfl) ?_
        obtain rfl := some1 he
        exact cRl hx hb hr hlk hK hP hD hS dX8_since_104
      · have he := ifn he c1
        refine lv_aload_n hx hb dX8_since_32 rfl (lv_at hl 0 rfl) ?_
        refine va_get (D := D) (ci := 8) (v := .ref (g 1)) (C := RX8) (T := TX8) (N := 13) hx hb hts iX8 hown hK hP 0 rfl rfl 1 (by decide) w2 (fun _ h9 => h9) rfl dX8_since_33 ?_
        refine lv_bipush (v := 122) hx hb dX8_since_36 (by decide) ?_
        refine lv_bipush (v := 12) hx hb dX8_since_38 (by decide) ?_
        refine lv_iload_n hx hb dX8_since_40 rfl (lv_at hl 1 rfl) ?_
        refine lv_imul hx hb dX8_since_41 ?_
        refine lv_iadd hx hb dX8_since_42 ?_
        refine lv_iload hx hb dX8_since_43 (lv_at hl 4 rfl) ?_
        refine lv_iadd hx hb dX8_since_45 ?_
        obtain ⟨h2, he⟩ := grd_i he
        refine va_iald hx hb hK hP 1 0 rfl rfl (ix_in h2) dX8_since_46 ?_
        refine lv_istore (lv' := [(6, .int (s (Int32.toNatClampNeg ((122 + (12 * x1)) + x5)))), (0, .ref (g 0)), (1, .int x1), (2, .int x2), (3, .long x3), (5, .int x5)]) hx hb dX8_since_47 hl (by decide) rfl (fun ls hl => ?_)
        refine lv_lload_n hx hb dX8_since_49 rfl (lv_at hl 4 rfl) ?_
        refine lv_iload hx hb dX8_since_50 (lv_at hl 0 rfl) ?_
        refine lv_iconst (v := (-1)) hx hb dX8_since_52 (by decide) ?_
        refine lv_icmp_eq (tgt := 94) hx hb dX8_since_53 (by decide) (fun c3 => ?_) (fun c3 => ?_)
        · have he := ifp he c3
          refine lv_lconst (v := 0) hx hb dX8_since_94 (by decide) ?_
          refine lv_ladd hx hb dX8_since_95 ?_
          refine lv_lstore_n (lv' := [(3, .long (x3 + 0)), (6, .int (s (Int32.toNatClampNeg ((122 + (12 * x1)) + x5)))), (0, .ref (g 0)), (1, .int x1), (2, .int x2), (5, .int x5)]) hx hb dX8_since_96 rfl hl (by decide) rfl (fun ls hl => ?_)
          refine lv_iinc (v := (x5 + 1)) (lv' := [(5, .int (x5 + 1)), (3, .long (x3 + 0)), (6, .int (s (Int32.toNatClampNeg ((122 + (12 * x1)) + x5)))), (0, .ref (g 0)), (1, .int x1), (2, .int x2)]) hx hb dX8_since_97 hl (k := 5) rfl rfl (by decide) rfl (fun ls hl => ?_)
          refine lv_goto (tgt := 25) hx hb dX8_since_100 (by decide) ?_
          exact ih25 x1 x2 (x3 + 0) (x5 + 1) he H locs hP hD hS ls (lv_sub hl [3, 4, 5, 1, 0] rfl)
        · have he := ifn he c3
          refine lv_aload_n hx hb dX8_since_56 rfl (lv_at hl 1 rfl) ?_
          refine va_get (D := D) (ci := 8) (v := .ref (g 1)) (C := RX8) (T := TX8) (N := 13) hx hb hts iX8 hown hK hP 0 rfl rfl 1 (by decide) w2 (fun _ h9 => h9) rfl dX8_since_57 ?_
          refine lv_sipush (v := 458) hx hb dX8_since_60 (by decide) ?_
          refine lv_iload hx hb dX8_since_63 (lv_at hl 0 rfl) ?_
          refine lv_iadd hx hb dX8_since_65 ?_
          obtain ⟨h4, he⟩ := grd_i he
          refine va_iald hx hb hK hP 1 0 rfl rfl (ix_in h4) dX8_since_66 ?_
          refine lv_aload_n hx hb dX8_since_67 rfl (lv_at hl 1 rfl) ?_
          refine va_get (D := D) (ci := 8) (v := .ref (g 1)) (C := RX8) (T := TX8) (N := 13) hx hb hts iX8 hown hK hP 0 rfl rfl 1 (by decide) w2 (fun _ h9 => h9) rfl dX8_since_68 ?_
          refine lv_bipush (v := 22) hx hb dX8_since_71 (by decide) ?_
          refine lv_iload_n hx hb dX8_since_73 rfl (lv_at hl 3 rfl) ?_
          refine lv_iadd hx hb dX8_since_74 ?_
          obtain ⟨h5, he⟩ := grd_i he
          refine va_iald hx hb hK hP 1 0 rfl rfl (ix_in h5) dX8_since_75 ?_
          refine lv_icmp_le (tgt := 94) hx hb dX8_since_76 (by decide) (fun c6 => ?_) (fun c6 => ?_)
          · have he := ifp he c6
            refine lv_lconst (v := 0) hx hb dX8_since_94 (by decide) ?_
            refine lv_ladd hx hb dX8_since_95 ?_
            refine lv_lstore_n (lv' := [(3, .long (x3 + 0)), (6, .int (s (Int32.toNatClampNeg ((122 + (12 * x1)) + x5)))), (0, .ref (g 0)), (1, .int x1), (2, .int x2), (5, .int x5)]) hx hb dX8_since_96 rfl hl (by decide) rfl (fun ls hl => ?_)
            refine lv_iinc (v := (x5 + 1)) (lv' := [(5, .int (x5 + 1)), (3, .long (x3 + 0)), (6, .int (s (Int32.toNatClampNeg ((122 + (12 * x1)) + x5)))), (0, .ref (g 0)), (1, .int x1), (2, .int x2)]) hx hb dX8_since_97 hl (k := 5) rfl rfl (by decide) rfl (fun ls hl => ?_)
            refine lv_goto (tgt := 25) hx hb dX8_since_100 (by decide) ?_
            exact ih25 x1 x2 (x3 + 0) (x5 + 1) he H locs hP hD hS ls (lv_sub hl [3, 4, 5, 1, 0] rfl)
          · have he := ifn he c6
            refine lv_aload_n hx hb dX8_since_79 rfl (lv_at hl 1 rfl) ?_
            refine va_get (D := D) (ci := 8) (v := .ref (g 1)) (C := RX8) (T := TX8) (N := 13) hx hb hts iX8 hown hK hP 0 rfl rfl 1 (by decide) w2 (fun _ h9 => h9) rfl dX8_since_80 ?_
            refine lv_sipush (v := 362) hx hb dX8_since_83 (by decide) ?_
            refine lv_iload hx hb dX8_since_86 (lv_at hl 0 rfl) ?_
            refine lv_iadd hx hb dX8_since_88 ?_
            obtain ⟨h7, he⟩ := grd_i he
            refine va_iald hx hb hK hP 1 0 rfl rfl (ix_in h7) dX8_since_89 ?_
            refine lv_i2l (v := (Int32.toInt64 (s (Int32.toNatClampNeg (362 + (s (Int32.toNatClampNeg ((122 + (12 * x1)) + x5)))))))) hx hb dX8_since_90 rfl ?_
            refine lv_goto (tgt := 95) hx hb dX8_since_91 (by decide) ?_
            refine lv_ladd hx hb dX8_since_95 ?_
            refine lv_lstore_n (lv' := [(3, .long (x3 + (Int32.toInt64 (s (Int32.toNatClampNeg (362 + (s (Int32.toNatClampNeg ((122 + (12 * x1)) + x5))))))))), (6, .int (s (Int32.toNatClampNeg ((122 + (12 * x1)) + x5)))), (0, .ref (g 0)), (1, .int x1), (2, .int x2), (5, .int x5)]) hx hb dX8_since_96 rfl hl (by decide) rfl (fun ls hl => ?_)
            refine lv_iinc (v := (x5 + 1)) (lv' := [(5, .int (x5 + 1)), (3, .long (x3 + (Int32.toInt64 (s (Int32.toNatClampNeg (362 + (s (Int32.toNatClampNeg ((122 + (12 * x1)) + x5))))))))), (6, .int (s (Int32.toNatClampNeg ((122 + (12 * x1)) + x5)))), (0, .ref (g 0)), (1, .int x1), (2, .int x2)]) hx hb dX8_since_97 hl (k := 5) rfl rfl (by decide) rfl (fun ls hl => ?_)
            refine lv_goto (tgt := 25) hx hb dX8_since_100 (by decide) ?_
            exact ih25 x1 x2 (x3 + (Int32.toInt64 (s (Int32.toNatClampNeg (362 + (s (Int32.toNatClampNeg ((122 + (12 * x1)) + x5)))))))) (x5 + 1) he H locs hP hD hS ls (lv_sub hl [3, 4, 5, 1, 0] rfl)
  have hS0 := hS
  have key : ∀ (H : Heap) (locs : List Loc), H = ss.heap → locs = [] → va_P D vwCl (wModel k g s im fr hd nw hh qs qz it th hm ow lo) H → va_S (va_A (wModel k g s im fr hd nw hh qs qz it th hm ow lo) ss.heap.size) ss.heap H locs → W pp l ee ({ frames := 4, cells := 0, slots := 0, locals := 85 } : Room) ss mm ([.ref (g 0), .int p1, .int p2] : List Value).toArray bl me co H locs 0 0 (MQ bl (cQl D k (wModel k g s im fr hd nw hh qs qz it th hm ow lo) ss.heap.size r (wModel k g s im fr hd nw hh qs qz it th hm ow lo)) ([.ref (g 0), .int p1, .int p2] : List Value).toArray ss 0 0 (va_A (wModel k g s im fr hd nw hh qs qz it th hm ow lo) ss.heap.size)) (F0 mm 0 ls []) := by
    intro H locs _ _ hP hS
    refine lv_aload_n hx hb dX8_since_0 rfl (lv_at hl 0 rfl) ?_
    refine lv_iload_n hx hb dX8_since_1 rfl (lv_at hl 1 rfl) ?_
    obtain ⟨v1001, h1002, he⟩ := bn1_i he
    refine cVir (As := [.int p1]) (rest := []) ⟨hx, hb, hml, hown, hts⟩ hK hA hP hD hS (mX8_hasSlots l D k g (s := s) (im := im) (fr := fr) (hd := hd) (nw := nw) (hh := hh) (qs := qs) (qz := qz) (it := it) (th := th) (hm := hm) (ow := ow) (lo := lo) h1002) (cwV 1 hts gX8_since_X8_hasSlots rfl rfl rfl kX8_hasSlots ⟨Nat.le_of_ble_eq_true rfl, Nat.le_of_ble_eq_true rfl⟩) [0, 1, 2, 3, 4, 5, 6, 7, 8, 9] rfl rfl 0 rfl rfl rfl hl.1 rfl (Nat.le_of_ble_eq_true rfl) ⟨Nat.le_refl 0, Nat.le_refl 0⟩ dX8_since_2 (fun H locs hP hD hS => ?_)
    refine lv_if_eq (tgt := 16) hx hb dX8_since_5 (by decide) (fun c1003 => ?_) (fun c1003 => ?_)
    · have he := ifp he c1003
      refine lv_ldc2 hx hb hown w1 dX8_since_16 ?_
      obtain rfl := some1 he
      exact cRl hx hb hr hlk hK hP hD hS dX8_since_19
    · have he := ifn he c1003
      refine lv_aload_n hx hb dX8_since_8 rfl (lv_at hl 0 rfl) ?_
      refine lv_iload_n hx hb dX8_since_9 rfl (lv_at hl 2 rfl) ?_
      obtain ⟨v1004, h1005, he⟩ := bn1_i he
      refine cVir (As := [.int p2]) (rest := []) ⟨hx, hb, hml, hown, hts⟩ hK hA hP hD hS (mX8_isThing l D k g (s := s) (im := im) (fr := fr) (hd := hd) (nw := nw) (hh := hh) (qs := qs) (qz := qz) (it := it) (th := th) (hm := hm) (ow := ow) (lo := lo) h1005) (cwV 1 hts gX8_since_X8_isThing rfl rfl rfl kX8_isThing ⟨Nat.le_of_ble_eq_true rfl, Nat.le_of_ble_eq_true rfl⟩) [0, 1, 2, 3, 4, 5, 6, 7, 8, 9] rfl rfl 0 rfl rfl rfl hl.1 rfl (Nat.le_of_ble_eq_true rfl) ⟨Nat.le_refl 0, Nat.le_refl 0⟩ dX8_since_10 (fun H locs hP hD hS => ?_)
      refine lv_if_ne (tgt := 20) hx hb dX8_since_13 (by decide) (fun c1006 => ?_) (fun c1006 => ?_)
      · have he := ifn he c1006
        refine lv_lconst (v := 0) hx hb dX8_since_20 (by decide) ?_
        refine lv_lstore_n (lv' := [(3, .long 0), (0, .ref (g 0)), (1, .int p1), (2, .int p2)]) hx hb dX8_since_21 rfl hl (by decide) rfl (fun ls hl => ?_)
        refine lv_iconst (v := 0) hx hb dX8_since_22 (by decide) ?_
        refine lv_istore (lv' := [(5, .int 0), (3, .long 0), (0, .ref (g 0)), (1, .int p1), (2, .int p2)]) hx hb dX8_since_23 hl (by decide) rfl (fun ls hl => ?_)
        exact B25 600 p1 p2 0 0 he H locs hP hD hS ls (lv_sub hl [2, 3, 4, 1, 0] rfl)
      · have he := ifp he c1006
        refine lv_ldc2 hx hb hown w1 dX8_since_16 ?_
        obtain rfl := some1 he
        exact cRl hx hb hr hlk hK hP hD hS dX8_since_19
  exact key ss.heap [] rfl rfl hP hS
theorem kX8_common : yX8_common.cls = RX8 ∧ yX8_common.cls ≠ "java/lang/invoke/MethodHandle" ∧ yX8_common.cls ≠ "java/lang/invoke/VarHandle" ∧ (parseMethodDescriptor yX8_common.desc).map (fun d => d.parameters.length) = some 2 := by decide +kernel
set_option maxRecDepth 100000 in
set_option maxHeartbeats 4000000 in
theorem mX8_common (l : Launch) (D : va_G) (k : Nat → ClassId) (g : Nat → Nat) {s : Nat → Int32} {im : Nat → Int32} {fr : Nat → Int32} {hd : Nat → Int32} {nw : Nat → Int32} {hh : Nat → Int32} {qs : Nat → Int32} {qz : Nat → Int32} {it : Nat → Int64} {th : Int32} {hm : Int32} {ow : Int32} {lo : Int32} {p1 : Int32} {p2 : Int32} {r : Int64}  (he : xX8_common s p1 p2 = some r) : CtL l D k yX8_common wsX8_common ({ frames := 5, cells := 0, slots := 0, locals := 109 } : Room) [.ref (g 0), .int p1, .int p2] (wModel k g s im fr hd nw hh qs qz it th hm ow lo) r (wModel k g s im fr hd nw hh qs qz it th hm ow lo) := by
  intro sz9
  refine cSt (lv := [(0, .ref (g 0)), (1, .int p1), (2, .int p2)]) (own := RX8) (cc := cX8_common) (nL := 6) (ret := (some .long)) (by decide +kernel) rfl rfl (Nat.le_of_ble_eq_true rfl) rfl ?_
  intro pp ee ss mm bl me co hsz hC0 hP hD hS ls hl
  subst hsz
  obtain ⟨hx, hb, hr, hml, hown, hts, hK, hlk⟩ := hC0
  have hA : ∀ q, ss.heap.size ≤ q → va_A (wModel k g s im fr hd nw hh qs qz it th hm ow lo) ss.heap.size q := fun q h => Or.inr h
  have iX8 : ∀ w ∈ wsX80, w ∈ wsX8_common := fun _ h => List.mem_cons_of_mem _ (List.mem_append_right _ h)
  have w2 := hts (.fieldLink RX8 7 "DeadListPoolModel" "s" "[I") (List.mem_of_getElem? (i := 2) rfl)
  have w1 := hts (.constantLong RX8 134 (-4611686018427387904)) (List.mem_of_getElem? (i := 1) rfl)
  have B25 : ∀ (n25 : Nat) (x1 : Int32) (x2 : Int32) (x3 : Int64) (x5 : Int32), xX8_common_25 s n25 x1 x2 x3 x5 = some r → ∀ (H : Heap) (locs : List Loc), va_P D vwCl (wModel k g s im fr hd nw hh qs qz it th hm ow lo) H → va_D (va_A (wModel k g s im fr hd nw hh qs qz it th hm ow lo) ss.heap.size) (wModel k g s im fr hd nw hh qs qz it th hm ow lo) → va_S (va_A (wModel k g s im fr hd nw hh qs qz it th hm ow lo) ss.heap.size) ss.heap H locs → ∀ ls : Array Slot, lv_has ls 6 [(0, .ref (g 0)), (1, .int x1), (2, .int x2), (3, .long x3), (5, .int x5)] → W pp l ee ({ frames := 5, cells := 0, slots := 0, locals := 109 } : Room) ss mm ([.ref (g 0), .int p1, .int p2] : List Value).toArray bl me co H locs 0 0 (MQ bl (cQl D k (wModel k g s im fr hd nw hh qs qz it th hm ow lo) ss.heap.size r (wModel k g s im fr hd nw hh qs qz it th hm ow lo)) ([.ref (g 0), .int p1, .int p2] : List Value).toArray ss 0 0 (va_A (wModel k g s im fr hd nw hh qs qz it th hm ow lo) ss.heap.size)) (F0 mm 25 ls []) := by
    intro n25
    induction n25 with
    | zero =>
      intro x1 x2 x3 x5 he
      exact absurd (show (none : Option (Int64)) = some r from he) (by simp)
    | succ n25 ih25 =>
      intro x1 x2 x3 x5 he H locs hP hD hS ls hl
      refine lv_iload hx hb dX8_common_25 (lv_at hl 4 rfl) ?_
      refine lv_bipush (v := 96) hx hb dX8_common_27 (by decide) ?_
      refine lv_icmp_ge (tgt := 91) hx hb dX8_common_29 (by decide) (fun c1 => ?_) (fun c1 => ?_)
      · have he := ifp he c1
        refine lv_lload_n hx hb dX8_common_91 rfl (lv_at hl 3 rfl) ?_
        obtain rfl := some1 he
        exact cRl hx hb hr hlk hK hP hD hS dX8_common_92
      · have he := ifn he c1
        refine lv_lload_n hx hb dX8_common_32 rfl (lv_at hl 3 rfl) ?_
        refine lv_aload_n hx hb dX8_common_33 rfl (lv_at hl 0 rfl) ?_
        refine va_get (D := D) (ci := 8) (v := .ref (g 1)) (C := RX8) (T := TX8) (N := 13) hx hb hts iX8 hown hK hP 0 rfl rfl 1 (by decide) w2 (fun _ h9 => h9) rfl dX8_common_34 ?_
        refine lv_sipush (v := 362) hx hb dX8_common_37 (by decide) ?_
        refine lv_iload hx hb dX8_common_40 (lv_at hl 4 rfl) ?_
        refine lv_iadd hx hb dX8_common_42 ?_
        obtain ⟨h2, he⟩ := grd_i he
        refine va_iald hx hb hK hP 1 0 rfl rfl (ix_in h2) dX8_common_43 ?_
        refine lv_if_le (tgt := 82) hx hb dX8_common_44 (by decide) (fun c3 => ?_) (fun c3 => ?_)
        · have he := ifp he c3
          refine lv_lconst (v := 0) hx hb dX8_common_82 (by decide) ?_
          refine lv_ladd hx hb dX8_common_83 ?_
          refine lv_lstore_n (lv' := [(3, .long (x3 + 0)), (0, .ref (g 0)), (1, .int x1), (2, .int x2), (5, .int x5)]) hx hb dX8_common_84 rfl hl (by decide) rfl (fun ls hl => ?_)
          refine lv_iinc (v := (x5 + 1)) (lv' := [(5, .int (x5 + 1)), (3, .long (x3 + 0)), (0, .ref (g 0)), (1, .int x1), (2, .int x2)]) hx hb dX8_common_85 hl (k := 4) rfl rfl (by decide) rfl (fun ls hl => ?_)
          refine lv_goto (tgt := 25) hx hb dX8_common_88 (by decide) ?_
          exact ih25 x1 x2 (x3 + 0) (x5 + 1) he H locs hP hD hS ls (lv_sub hl [2, 3, 4, 1, 0] rfl)
        · have he := ifn he c3
          refine lv_aload_n hx hb dX8_common_47 rfl (lv_at hl 0 rfl) ?_
          refine lv_iload_n hx hb dX8_common_48 rfl (lv_at hl 1 rfl) ?_
          refine lv_iload hx hb dX8_common_49 (lv_at hl 4 rfl) ?_
          obtain ⟨v4, h5, he⟩ := bn1_i he
          refine cVir (As := [.int x1, .int x5]) (rest := [.long x3]) ⟨hx, hb, hml, hown, hts⟩ hK hA hP hD hS (mX8_isHeld l D k g (s := s) (im := im) (fr := fr) (hd := hd) (nw := nw) (hh := hh) (qs := qs) (qz := qz) (it := it) (th := th) (hm := hm) (ow := ow) (lo := lo) h5) (cwV 2 hts gX8_common_X8_isHeld rfl rfl rfl kX8_isHeld ⟨Nat.le_of_ble_eq_true rfl, Nat.le_of_ble_eq_true rfl⟩) [0, 1, 2, 3, 4, 5, 6, 7, 8, 9] rfl rfl 0 rfl rfl rfl hl.1 rfl (Nat.le_of_ble_eq_true rfl) ⟨Nat.le_refl 0, Nat.le_refl 0⟩ dX8_common_51 (fun H locs hP hD hS => ?_)
          refine lv_if_eq (tgt := 82) hx hb dX8_common_54 (by decide) (fun c6 => ?_) (fun c6 => ?_)
          · have he := ifp he c6
            refine lv_lconst (v := 0) hx hb dX8_common_82 (by decide) ?_
            refine lv_ladd hx hb dX8_common_83 ?_
            refine lv_lstore_n (lv' := [(3, .long (x3 + 0)), (0, .ref (g 0)), (1, .int x1), (2, .int x2), (5, .int x5)]) hx hb dX8_common_84 rfl hl (by decide) rfl (fun ls hl => ?_)
            refine lv_iinc (v := (x5 + 1)) (lv' := [(5, .int (x5 + 1)), (3, .long (x3 + 0)), (0, .ref (g 0)), (1, .int x1), (2, .int x2)]) hx hb dX8_common_85 hl (k := 4) rfl rfl (by decide) rfl (fun ls hl => ?_)
            refine lv_goto (tgt := 25) hx hb dX8_common_88 (by decide) ?_
            exact ih25 x1 x2 (x3 + 0) (x5 + 1) he H locs hP hD hS ls (lv_sub hl [2, 3, 4, 1, 0] rfl)
          · have he := ifn he c6
            refine lv_aload_n hx hb dX8_common_57 rfl (lv_at hl 0 rfl) ?_
            refine lv_iload_n hx hb dX8_common_58 rfl (lv_at hl 2 rfl) ?_
            refine lv_iload hx hb dX8_common_59 (lv_at hl 4 rfl) ?_
            obtain ⟨v7, h8, he⟩ := bn1_i he
            refine cVir (As := [.int x2, .int x5]) (rest := [.long x3]) ⟨hx, hb, hml, hown, hts⟩ hK hA hP hD hS (mX8_isHeld l D k g (s := s) (im := im) (fr := fr) (hd := hd) (nw := nw) (hh := hh) (qs := qs) (qz := qz) (it := it) (th := th) (hm := hm) (ow := ow) (lo := lo) h8) (cwV 2 hts gX8_common_X8_isHeld rfl rfl rfl kX8_isHeld ⟨Nat.le_of_ble_eq_true rfl, Nat.le_of_ble_eq_true rfl⟩) [0, 1, 2, 3, 4, 5, 6, 7, 8, 9] rfl rfl 0 rfl rfl rfl hl.1 rfl (Nat.le_of_ble_eq_true rfl) ⟨Nat.le_refl 0, Nat.le_refl 0⟩ dX8_common_61 (fun H locs hP hD hS => ?_)
            refine lv_if_eq (tgt := 82) hx hb dX8_common_64 (by decide) (fun c9 => ?_) (fun c9 => ?_)
            · have he := ifp he c9
              refine lv_lconst (v := 0) hx hb dX8_common_82 (by decide) ?_
              refine lv_ladd hx hb dX8_common_83 ?_
              refine lv_lstore_n (lv' := [(3, .long (x3 + 0)), (0, .ref (g 0)), (1, .int x1), (2, .int x2), (5, .int x5)]) hx hb dX8_common_84 rfl hl (by decide) rfl (fun ls hl => ?_)
              refine lv_iinc (v := (x5 + 1)) (lv' := [(5, .int (x5 + 1)), (3, .long (x3 + 0)), (0, .ref (g 0)), (1, .int x1), (2, .int x2)]) hx hb dX8_common_85 hl (k := 4) rfl rfl (by decide) rfl (fun ls hl => ?_)
              refine lv_goto (tgt := 25) hx hb dX8_common_88 (by decide) ?_
              exact ih25 x1 x2 (x3 + 0) (x5 + 1) he H locs hP hD hS ls (lv_sub hl [2, 3, 4, 1, 0] rfl)
            · have he := ifn he c9
              refine lv_aload_n hx hb dX8_common_67 rfl (lv_at hl 0 rfl) ?_
              refine va_get (D := D) (ci := 8) (v := .ref (g 1)) (C := RX8) (T := TX8) (N := 13) hx hb hts iX8 hown hK hP 0 rfl rfl 1 (by decide) w2 (fun _ h9 => h9) rfl dX8_common_68 ?_
              refine lv_sipush (v := 362) hx hb dX8_common_71 (by decide) ?_
              refine lv_iload hx hb dX8_common_74 (lv_at hl 4 rfl) ?_
              refine lv_iadd hx hb dX8_common_76 ?_
              obtain ⟨h10, he⟩ := grd_i he
              refine va_iald hx hb hK hP 1 0 rfl rfl (ix_in h10) dX8_common_77 ?_
              refine lv_i2l (v := (Int32.toInt64 (s (Int32.toNatClampNeg (362 + x5))))) hx hb dX8_common_78 rfl ?_
              refine lv_goto (tgt := 83) hx hb dX8_common_79 (by decide) ?_
              refine lv_ladd hx hb dX8_common_83 ?_
              refine lv_lstore_n (lv' := [(3, .long (x3 + (Int32.toInt64 (s (Int32.toNatClampNeg (362 + x5)))))), (0, .ref (g 0)), (1, .int x1), (2, .int x2), (5, .int x5)]) hx hb dX8_common_84 rfl hl (by decide) rfl (fun ls hl => ?_)
              refine lv_iinc (v := (x5 + 1)) (lv' := [(5, .int (x5 + 1)), (3, .long (x3 + (Int32.toInt64 (s (Int32.toNatClampNeg (362 + x5)))))), (0, .ref (g 0)), (1, .int x1), (2, .int x2)]) hx hb dX8_common_85 hl (k := 4) rfl rfl (by decide) rfl (fun ls hl => ?_)
              refine lv_goto (tgt := 25) hx hb dX8_common_88 (by decide) ?_
              exact ih25 x1 x2 (x3 + (Int32.toInt64 (s (Int32.toNatClampNeg (362 + x5))))) (x5 + 1) he H locs hP hD hS ls (lv_sub hl [2, 3, 4, 1, 0] rfl)
  have hS0 := hS
  have key : ∀ (H : Heap) (locs : List Loc), H = ss.heap → locs = [] → va_P D vwCl (wModel k g s im fr hd nw hh qs qz it th hm ow lo) H → va_S (va_A (wModel k g s im fr hd nw hh qs qz it th hm ow lo) ss.heap.size) ss.heap H locs → W pp l ee ({ frames := 5, cells := 0, slots := 0, locals := 109 } : Room) ss mm ([.ref (g 0), .int p1, .int p2] : List Value).toArray bl me co H locs 0 0 (MQ bl (cQl D k (wModel k g s im fr hd nw hh qs qz it th hm ow lo) ss.heap.size r (wModel k g s im fr hd nw hh qs qz it th hm ow lo)) ([.ref (g 0), .int p1, .int p2] : List Value).toArray ss 0 0 (va_A (wModel k g s im fr hd nw hh qs qz it th hm ow lo) ss.heap.size)) (F0 mm 0 ls []) := by
    intro H locs _ _ hP hS
    refine lv_aload_n hx hb dX8_common_0 rfl (lv_at hl 0 rfl) ?_
    refine lv_iload_n hx hb dX8_common_1 rfl (lv_at hl 1 rfl) ?_
    obtain ⟨v1001, h1002, he⟩ := bn1_i he
    refine cVir (As := [.int p1]) (rest := []) ⟨hx, hb, hml, hown, hts⟩ hK hA hP hD hS (mX8_hasSlots l D k g (s := s) (im := im) (fr := fr) (hd := hd) (nw := nw) (hh := hh) (qs := qs) (qz := qz) (it := it) (th := th) (hm := hm) (ow := ow) (lo := lo) h1002) (cwV 1 hts gX8_common_X8_hasSlots rfl rfl rfl kX8_hasSlots ⟨Nat.le_of_ble_eq_true rfl, Nat.le_of_ble_eq_true rfl⟩) [0, 1, 2, 3, 4, 5, 6, 7, 8, 9] rfl rfl 0 rfl rfl rfl hl.1 rfl (Nat.le_of_ble_eq_true rfl) ⟨Nat.le_refl 0, Nat.le_refl 0⟩ dX8_common_2 (fun H locs hP hD hS => ?_)
    refine lv_if_eq (tgt := 16) hx hb dX8_common_5 (by decide) (fun c1003 => ?_) (fun c1003 => ?_)
    · have he := ifp he c1003
      refine lv_ldc2 hx hb hown w1 dX8_common_16 ?_
      obtain rfl := some1 he
      exact cRl hx hb hr hlk hK hP hD hS dX8_common_19
    · have he := ifn he c1003
      refine lv_aload_n hx hb dX8_common_8 rfl (lv_at hl 0 rfl) ?_
      refine lv_iload_n hx hb dX8_common_9 rfl (lv_at hl 2 rfl) ?_
      obtain ⟨v1004, h1005, he⟩ := bn1_i he
      refine cVir (As := [.int p2]) (rest := []) ⟨hx, hb, hml, hown, hts⟩ hK hA hP hD hS (mX8_hasSlots l D k g (s := s) (im := im) (fr := fr) (hd := hd) (nw := nw) (hh := hh) (qs := qs) (qz := qz) (it := it) (th := th) (hm := hm) (ow := ow) (lo := lo) h1005) (cwV 1 hts gX8_common_X8_hasSlots rfl rfl rfl kX8_hasSlots ⟨Nat.le_of_ble_eq_true rfl, Nat.le_of_ble_eq_true rfl⟩) [0, 1, 2, 3, 4, 5, 6, 7, 8, 9] rfl rfl 0 rfl rfl rfl hl.1 rfl (Nat.le_of_ble_eq_true rfl) ⟨Nat.le_refl 0, Nat.le_refl 0⟩ dX8_common_10 (fun H locs hP hD hS => ?_)
      refine lv_if_ne (tgt := 20) hx hb dX8_common_13 (by decide) (fun c1006 => ?_) (fun c1006 => ?_)
      · have he := ifn he c1006
        refine lv_lconst (v := 0) hx hb dX8_common_20 (by decide) ?_
        refine lv_lstore_n (lv' := [(3, .long 0), (0, .ref (g 0)), (1, .int p1), (2, .int p2)]) hx hb dX8_common_21 rfl hl (by decide) rfl (fun ls hl => ?_)
        refine lv_iconst (v := 0) hx hb dX8_common_22 (by decide) ?_
        refine lv_istore (lv' := [(5, .int 0), (3, .long 0), (0, .ref (g 0)), (1, .int p1), (2, .int p2)]) hx hb dX8_common_23 hl (by decide) rfl (fun ls hl => ?_)
        exact B25 600 p1 p2 0 0 he H locs hP hD hS ls (lv_sub hl [2, 3, 4, 1, 0] rfl)
      · have he := ifp he c1006
        refine lv_ldc2 hx hb hown w1 dX8_common_16 ?_
        obtain rfl := some1 he
        exact cRl hx hb hr hlk hK hP hD hS dX8_common_19
  exact key ss.heap [] rfl rfl hP hS
theorem kX8_looksForOwned : yX8_looksForOwned.cls = RX8 ∧ yX8_looksForOwned.cls ≠ "java/lang/invoke/MethodHandle" ∧ yX8_looksForOwned.cls ≠ "java/lang/invoke/VarHandle" ∧ (parseMethodDescriptor yX8_looksForOwned.desc).map (fun d => d.parameters.length) = some 1 := by decide +kernel
set_option maxRecDepth 100000 in
set_option maxHeartbeats 4000000 in
theorem mX8_looksForOwned (l : Launch) (D : va_G) (k : Nat → ClassId) (g : Nat → Nat) {s : Nat → Int32} {im : Nat → Int32} {fr : Nat → Int32} {hd : Nat → Int32} {nw_0 : Nat → Int32} {hh : Nat → Int32} {qs : Nat → Int32} {qz : Nat → Int32} {it : Nat → Int64} {th : Int32} {hm : Int32} {ow_0 : Int32} {lo : Int32} {p1 : Int32} {nw' : Nat → Int32} {ow' : Int32} (he : xX8_looksForOwned s nw_0 ow_0 p1 = some (nw', ow')) : CtV l D k yX8_looksForOwned wsX8_looksForOwned ({ frames := 3, cells := 0, slots := 0, locals := 64 } : Room) [.ref (g 0), .int p1] (wModel k g s im fr hd nw_0 hh qs qz it th hm ow_0 lo) (wModel k g s im fr hd nw' hh qs qz it th hm ow' lo) := by
  intro sz9
  refine cSt (lv := [(0, .ref (g 0)), (1, .int p1)]) (own := RX8) (cc := cX8_looksForOwned) (nL := 4) (ret := none) (by decide +kernel) rfl rfl (Nat.le_of_ble_eq_true rfl) rfl ?_
  intro pp ee ss mm bl me co hsz hC0 hP hD hS ls hl
  subst hsz
  obtain ⟨hx, hb, hr, hml, hown, hts, hK, hlk⟩ := hC0
  have hA : ∀ q, ss.heap.size ≤ q → va_A (wModel k g s im fr hd nw_0 hh qs qz it th hm ow_0 lo) ss.heap.size q := fun q h => Or.inr h
  have iX8 : ∀ w ∈ wsX80, w ∈ wsX8_looksForOwned := fun _ h => List.mem_cons_of_mem _ (List.mem_append_right _ h)
  have w3 := hts (.fieldLink RX8 22 "DeadListPoolModel" "newest" "[I") (List.mem_of_getElem? (i := 3) rfl)
  have w1 := hts (.fieldLink RX8 139 "DeadListPoolModel" "owns" "I") (List.mem_of_getElem? (i := 1) rfl)
  have w2 := hts (.fieldLink RX8 7 "DeadListPoolModel" "s" "[I") (List.mem_of_getElem? (i := 2) rfl)
  have B7 : ∀ (n7 : Nat) (x1 : Int32) (x2 : Int32) (nw : Nat → Int32) (ow : Int32), xX8_looksForOwned_7 s n7 x1 x2 nw ow = some (nw', ow') → ∀ (H : Heap) (locs : List Loc), va_P D vwCl (wModel k g s im fr hd nw hh qs qz it th hm ow lo) H → va_D (va_A (wModel k g s im fr hd nw_0 hh qs qz it th hm ow_0 lo) ss.heap.size) (wModel k g s im fr hd nw hh qs qz it th hm ow lo) → va_S (va_A (wModel k g s im fr hd nw_0 hh qs qz it th hm ow_0 lo) ss.heap.size) ss.heap H locs → ∀ ls : Array Slot, lv_has ls 4 [(0, .ref (g 0)), (1, .int x1), (2, .int x2)] → W pp l ee ({ frames := 3, cells := 0, slots := 0, locals := 64 } : Room) ss mm ([.ref (g 0), .int p1] : List Value).toArray bl me co H locs 0 0 (MQ bl (cQv D k (wModel k g s im fr hd nw_0 hh qs qz it th hm ow_0 lo) ss.heap.size (wModel k g s im fr hd nw' hh qs qz it th hm ow' lo)) ([.ref (g 0), .int p1] : List Value).toArray ss 0 0 (va_A (wModel k g s im fr hd nw_0 hh qs qz it th hm ow_0 lo) ss.heap.size)) (F0 mm 7 ls []) := by
    intro n7
    induction n7 with
    | zero =>
      intro x1 x2 nw ow he
      exact absurd (show (none : Option ((Nat → Int32) × Int32)) = some (nw', ow') from he) (by simp)
    | succ n7 ih7 =>
      have B91 : ∀ (x1 : Int32) (x2 : Int32) (x3 : Int32) (nw : Nat → Int32) (ow : Int32), xX8_looksForOwned_91 s (xX8_looksForOwned_7 s n7) x1 x2 x3 nw ow = some (nw', ow') → ∀ (H : Heap) (locs : List Loc), va_P D vwCl (wModel k g s im fr hd nw hh qs qz it th hm ow lo) H → va_D (va_A (wModel k g s im fr hd nw_0 hh qs qz it th hm ow_0 lo) ss.heap.size) (wModel k g s im fr hd nw hh qs qz it th hm ow lo) → va_S (va_A (wModel k g s im fr hd nw_0 hh qs qz it th hm ow_0 lo) ss.heap.size) ss.heap H locs → ∀ ls : Array Slot, lv_has ls 4 [(0, .ref (g 0)), (1, .int x1), (2, .int x2), (3, .int x3)] → W pp l ee ({ frames := 3, cells := 0, slots := 0, locals := 64 } : Room) ss mm ([.ref (g 0), .int p1] : List Value).toArray bl me co H locs 0 0 (MQ bl (cQv D k (wModel k g s im fr hd nw_0 hh qs qz it th hm ow_0 lo) ss.heap.size (wModel k g s im fr hd nw' hh qs qz it th hm ow' lo)) ([.ref (g 0), .int p1] : List Value).toArray ss 0 0 (va_A (wModel k g s im fr hd nw_0 hh qs qz it th hm ow_0 lo) ss.heap.size)) (F0 mm 91 ls []) := by
        intro x1 x2 x3 nw ow he H locs hP hD hS ls hl
        refine lv_aload_n hx hb dX8_looksForOwned_91 rfl (lv_at hl 0 rfl) ?_
        refine va_get (D := D) (ci := 8) (v := .ref (g 5)) (C := RX8) (T := TX8) (N := 13) hx hb hts iX8 hown hK hP 0 rfl rfl 6 (by decide) w3 (fun _ h9 => h9) rfl dX8_looksForOwned_92 ?_
        refine lv_iload_n hx hb dX8_looksForOwned_95 rfl (lv_at hl 3 rfl) ?_
        refine lv_iload_n hx hb dX8_looksForOwned_96 rfl (lv_at hl 2 rfl) ?_
        obtain ⟨h1, he⟩ := grd_i he
        obtain ⟨nw2, e3, he⟩ := lt_i he
        refine va_iast hx hb hK hP hD hS 5 0 rfl rfl (ix_in h1) dX8_looksForOwned_97 (fun H locs hP hD hS => ?_)
        have hP : va_P D vwCl (wModel k g s im fr hd nw2 hh qs qz it th hm ow lo) H := by rw [e3]; exact hP
        have hD : va_D _ (wModel k g s im fr hd nw2 hh qs qz it th hm ow lo) := va_D_adr (by rw [e3]; rfl) hD
        refine lv_aload_n hx hb dX8_looksForOwned_98 rfl (lv_at hl 0 rfl) ?_
        refine lv_dup hx hb dX8_looksForOwned_99 rfl ?_
        refine va_get (D := D) (ci := 8) (v := .int ow) (C := RX8) (T := TX8) (N := 13) hx hb hts iX8 hown hK hP 0 rfl rfl 7 (by decide) w1 (fun _ h9 => h9) rfl dX8_looksForOwned_100 ?_
        refine lv_iconst (v := 1) hx hb dX8_looksForOwned_103 (by decide) ?_
        refine lv_iadd hx hb dX8_looksForOwned_104 ?_
        obtain ⟨ow4, e5, he⟩ := lt_i he
        refine va_put (D := D) (ci := 8) (v := .int (ow + 1)) (ty := .int) (C := RX8) (T := TX8) (N := 13) hx hb hts iX8 tyX8 tyX8_ok nmX8 hown hK hP hD hS 0 rfl rfl 7 (by decide) w1 (fun _ h9 => h9) rfl (by decide +kernel) rfl rfl (Nat.le_of_ble_eq_true rfl) dX8_looksForOwned_105 (fun H locs hP hD hS => ?_)
        have hP : va_P D vwCl (wModel k g s im fr hd nw2 hh qs qz it th hm ow4 lo) H := by rw [e5]; exact hP
        have hD : va_D _ (wModel k g s im fr hd nw2 hh qs qz it th hm ow4 lo) := va_D_adr (by rw [e5]; rfl) hD
        refine lv_iinc (v := (x2 + 1)) (lv' := [(2, .int (x2 + 1)), (0, .ref (g 0)), (1, .int x1), (3, .int x3)]) hx hb dX8_looksForOwned_108 hl (k := 2) rfl rfl (by decide) rfl (fun ls hl => ?_)
        refine lv_goto (tgt := 7) hx hb dX8_looksForOwned_111 (by decide) ?_
        exact ih7 x1 (x2 + 1) nw2 ow4 he H locs hP hD hS ls (lv_sub hl [1, 2, 0] rfl)
      have B39 : ∀ (n39 : Nat) (x1 : Int32) (x2 : Int32) (x3 : Int32) (nw : Nat → Int32) (ow : Int32), xX8_looksForOwned_39 s (xX8_looksForOwned_7 s n7) n39 x1 x2 x3 nw ow = some (nw', ow') → ∀ (H : Heap) (locs : List Loc), va_P D vwCl (wModel k g s im fr hd nw hh qs qz it th hm ow lo) H → va_D (va_A (wModel k g s im fr hd nw_0 hh qs qz it th hm ow_0 lo) ss.heap.size) (wModel k g s im fr hd nw hh qs qz it th hm ow lo) → va_S (va_A (wModel k g s im fr hd nw_0 hh qs qz it th hm ow_0 lo) ss.heap.size) ss.heap H locs → ∀ ls : Array Slot, lv_has ls 4 [(0, .ref (g 0)), (1, .int x1), (2, .int x2), (3, .int x3)] → W pp l ee ({ frames := 3, cells := 0, slots := 0, locals := 64 } : Room) ss mm ([.ref (g 0), .int p1] : List Value).toArray bl me co H locs 0 0 (MQ bl (cQv D k (wModel k g s im fr hd nw_0 hh qs qz it th hm ow_0 lo) ss.heap.size (wModel k g s im fr hd nw' hh qs qz it th hm ow' lo)) ([.ref (g 0), .int p1] : List Value).toArray ss 0 0 (va_A (wModel k g s im fr hd nw_0 hh qs qz it th hm ow_0 lo) ss.heap.size)) (F0 mm 39 ls []) := by
        intro n39
        induction n39 with
        | zero =>
          intro x1 x2 x3 nw ow he
          exact absurd (show (none : Option ((Nat → Int32) × Int32)) = some (nw', ow') from he) (by simp)
        | succ n39 ih39 =>
          intro x1 x2 x3 nw ow he H locs hP hD hS ls hl
          refine lv_iload_n hx hb dX8_looksForOwned_39 rfl (lv_at hl 3 rfl) ?_
          refine lv_if_le (tgt := 91) hx hb dX8_looksForOwned_40 (by decide) (fun c6 => ?_) (fun c6 => ?_)
          · have he := ifp he c6
            exact B91 x1 x2 x3 nw ow he H locs hP hD hS ls (lv_sub hl [0, 1, 2, 3] rfl)
          · have he := ifn he c6
            refine lv_aload_n hx hb dX8_looksForOwned_43 rfl (lv_at hl 0 rfl) ?_
            refine va_get (D := D) (ci := 8) (v := .ref (g 1)) (C := RX8) (T := TX8) (N := 13) hx hb hts iX8 hown hK hP 0 rfl rfl 1 (by decide) w2 (fun _ h9 => h9) rfl dX8_looksForOwned_44 ?_
            refine lv_bipush (v := 22) hx hb dX8_looksForOwned_47 (by decide) ?_
            refine lv_aload_n hx hb dX8_looksForOwned_49 rfl (lv_at hl 0 rfl) ?_
            refine va_get (D := D) (ci := 8) (v := .ref (g 5)) (C := RX8) (T := TX8) (N := 13) hx hb hts iX8 hown hK hP 0 rfl rfl 6 (by decide) w3 (fun _ h9 => h9) rfl dX8_looksForOwned_50 ?_
            refine lv_iload_n hx hb dX8_looksForOwned_53 rfl (lv_at hl 3 rfl) ?_
            refine lv_iconst (v := 1) hx hb dX8_looksForOwned_54 (by decide) ?_
            refine lv_isub hx hb dX8_looksForOwned_55 ?_
            obtain ⟨h7, he⟩ := grd_i he
            refine va_iald hx hb hK hP 5 0 rfl rfl (ix_in h7) dX8_looksForOwned_56 ?_
            refine lv_iadd hx hb dX8_looksForOwned_57 ?_
            obtain ⟨h8, he⟩ := grd_i he
            refine va_iald hx hb hK hP 1 0 rfl rfl (ix_in h8) dX8_looksForOwned_58 ?_
            refine lv_aload_n hx hb dX8_looksForOwned_59 rfl (lv_at hl 0 rfl) ?_
            refine va_get (D := D) (ci := 8) (v := .ref (g 1)) (C := RX8) (T := TX8) (N := 13) hx hb hts iX8 hown hK hP 0 rfl rfl 1 (by decide) w2 (fun _ h9 => h9) rfl dX8_looksForOwned_60 ?_
            refine lv_bipush (v := 22) hx hb dX8_looksForOwned_63 (by decide) ?_
            refine lv_iload_n hx hb dX8_looksForOwned_65 rfl (lv_at hl 2 rfl) ?_
            refine lv_iadd hx hb dX8_looksForOwned_66 ?_
            obtain ⟨h9, he⟩ := grd_i he
            refine va_iald hx hb hK hP 1 0 rfl rfl (ix_in h9) dX8_looksForOwned_67 ?_
            refine lv_icmp_ge (tgt := 91) hx hb dX8_looksForOwned_68 (by decide) (fun c10 => ?_) (fun c10 => ?_)
            · have he := ifp he c10
              exact B91 x1 x2 x3 nw ow he H locs hP hD hS ls (lv_sub hl [0, 1, 2, 3] rfl)
            · have he := ifn he c10
              refine lv_aload_n hx hb dX8_looksForOwned_71 rfl (lv_at hl 0 rfl) ?_
              refine va_get (D := D) (ci := 8) (v := .ref (g 5)) (C := RX8) (T := TX8) (N := 13) hx hb hts iX8 hown hK hP 0 rfl rfl 6 (by decide) w3 (fun _ h9 => h9) rfl dX8_looksForOwned_72 ?_
              refine lv_iload_n hx hb dX8_looksForOwned_75 rfl (lv_at hl 3 rfl) ?_
              refine lv_aload_n hx hb dX8_looksForOwned_76 rfl (lv_at hl 0 rfl) ?_
              refine va_get (D := D) (ci := 8) (v := .ref (g 5)) (C := RX8) (T := TX8) (N := 13) hx hb hts iX8 hown hK hP 0 rfl rfl 6 (by decide) w3 (fun _ h9 => h9) rfl dX8_looksForOwned_77 ?_
              refine lv_iload_n hx hb dX8_looksForOwned_80 rfl (lv_at hl 3 rfl) ?_
              refine lv_iconst (v := 1) hx hb dX8_looksForOwned_81 (by decide) ?_
              refine lv_isub hx hb dX8_looksForOwned_82 ?_
              obtain ⟨h11, he⟩ := grd_i he
              refine va_iald hx hb hK hP 5 0 rfl rfl (ix_in h11) dX8_looksForOwned_83 ?_
              obtain ⟨h12, he⟩ := grd_i he
              obtain ⟨nw13, e14, he⟩ := lt_i he
              refine va_iast hx hb hK hP hD hS 5 0 rfl rfl (ix_in h12) dX8_looksForOwned_84 (fun H locs hP hD hS => ?_)
              have hP : va_P D vwCl (wModel k g s im fr hd nw13 hh qs qz it th hm ow lo) H := by rw [e14]; exact hP
              have hD : va_D _ (wModel k g s im fr hd nw13 hh qs qz it th hm ow lo) := va_D_adr (by rw [e14]; rfl) hD
              refine lv_iinc (v := (x3 + (-1))) (lv' := [(3, .int (x3 + (-1))), (0, .ref (g 0)), (1, .int x1), (2, .int x2)]) hx hb dX8_looksForOwned_85 hl (k := 3) rfl rfl (by decide) rfl (fun ls hl => ?_)
              refine lv_goto (tgt := 39) hx hb dX8_looksForOwned_88 (by decide) ?_
              exact ih39 x1 x2 (x3 + (-1)) nw13 ow he H locs hP hD hS ls (lv_sub hl [1, 2, 3, 0] rfl)
      intro x1 x2 nw ow he H locs hP hD hS ls hl
      refine lv_iload_n hx hb dX8_looksForOwned_7 rfl (lv_at hl 2 rfl) ?_
      refine lv_bipush (v := 20) hx hb dX8_looksForOwned_8 (by decide) ?_
      refine lv_icmp_ge (tgt := 114) hx hb dX8_looksForOwned_10 (by decide) (fun c15 => ?_) (fun c15 => ?_)
      · have he := ifp he c15
        obtain ⟨rfl, rfl⟩ := some2 he
        exact cRv hx hb hr hlk hK hP hD hS dX8_looksForOwned_114
      · have he := ifn he c15
        refine lv_aload_n hx hb dX8_looksForOwned_13 rfl (lv_at hl 0 rfl) ?_
        refine lv_iload_n hx hb dX8_looksForOwned_14 rfl (lv_at hl 2 rfl) ?_
        obtain ⟨v16, h17, he⟩ := bn1_i he
        refine cVir (As := [.int x2]) (rest := []) ⟨hx, hb, hml, hown, hts⟩ hK hA hP hD hS (mX8_isSnapshot l D k g (s := s) (im := im) (fr := fr) (hd := hd) (nw := nw) (hh := hh) (qs := qs) (qz := qz) (it := it) (th := th) (hm := hm) (ow := ow) (lo := lo) h17) (cwV 1 hts gX8_looksForOwned_X8_isSnapshot rfl rfl rfl kX8_isSnapshot ⟨Nat.le_of_ble_eq_true rfl, Nat.le_of_ble_eq_true rfl⟩) [0, 1, 2, 3, 4, 5, 6, 7, 8, 9] rfl rfl 0 rfl rfl rfl hl.1 rfl (Nat.le_of_ble_eq_true rfl) ⟨Nat.le_refl 0, Nat.le_refl 0⟩ dX8_looksForOwned_15 (fun H locs hP hD hS => ?_)
        refine lv_if_eq (tgt := 108) hx hb dX8_looksForOwned_18 (by decide) (fun c18 => ?_) (fun c18 => ?_)
        · have he := ifp he c18
          refine lv_iinc (v := (x2 + 1)) (lv' := [(2, .int (x2 + 1)), (0, .ref (g 0)), (1, .int x1)]) hx hb dX8_looksForOwned_108 hl (k := 2) rfl rfl (by decide) rfl (fun ls hl => ?_)
          refine lv_goto (tgt := 7) hx hb dX8_looksForOwned_111 (by decide) ?_
          exact ih7 x1 (x2 + 1) nw ow he H locs hP hD hS ls (lv_sub hl [1, 2, 0] rfl)
        · have he := ifn he c18
          refine lv_aload_n hx hb dX8_looksForOwned_21 rfl (lv_at hl 0 rfl) ?_
          refine va_get (D := D) (ci := 8) (v := .ref (g 1)) (C := RX8) (T := TX8) (N := 13) hx hb hts iX8 hown hK hP 0 rfl rfl 1 (by decide) w2 (fun _ h9 => h9) rfl dX8_looksForOwned_22 ?_
          refine lv_bipush (v := 62) hx hb dX8_looksForOwned_25 (by decide) ?_
          refine lv_iload_n hx hb dX8_looksForOwned_27 rfl (lv_at hl 2 rfl) ?_
          refine lv_iadd hx hb dX8_looksForOwned_28 ?_
          obtain ⟨h19, he⟩ := grd_i he
          refine va_iald hx hb hK hP 1 0 rfl rfl (ix_in h19) dX8_looksForOwned_29 ?_
          refine lv_iload_n hx hb dX8_looksForOwned_30 rfl (lv_at hl 1 rfl) ?_
          refine lv_icmp_ne (tgt := 108) hx hb dX8_looksForOwned_31 (by decide) (fun c20 => ?_) (fun c20 => ?_)
          · have he := ifn he c20
            refine lv_iinc (v := (x2 + 1)) (lv' := [(2, .int (x2 + 1)), (0, .ref (g 0)), (1, .int x1)]) hx hb dX8_looksForOwned_108 hl (k := 2) rfl rfl (by decide) rfl (fun ls hl => ?_)
            refine lv_goto (tgt := 7) hx hb dX8_looksForOwned_111 (by decide) ?_
            exact ih7 x1 (x2 + 1) nw ow he H locs hP hD hS ls (lv_sub hl [1, 2, 0] rfl)
          · have he := ifp he c20
            refine lv_aload_n hx hb dX8_looksForOwned_34 rfl (lv_at hl 0 rfl) ?_
            refine va_get (D := D) (ci := 8) (v := .int ow) (C := RX8) (T := TX8) (N := 13) hx hb hts iX8 hown hK hP 0 rfl rfl 7 (by decide) w1 (fun _ h9 => h9) rfl dX8_looksForOwned_35 ?_
            refine lv_istore_n (lv' := [(3, .int ow), (0, .ref (g 0)), (1, .int x1), (2, .int x2)]) hx hb dX8_looksForOwned_38 rfl hl (by decide) rfl (fun ls hl => ?_)
            exact B39 600 x1 x2 ow nw ow he H locs hP hD hS ls (lv_sub hl [1, 2, 3, 0] rfl)
  have hS0 := hS
  have key : ∀ (H : Heap) (locs : List Loc), H = ss.heap → locs = [] → va_P D vwCl (wModel k g s im fr hd nw_0 hh qs qz it th hm ow_0 lo) H → va_S (va_A (wModel k g s im fr hd nw_0 hh qs qz it th hm ow_0 lo) ss.heap.size) ss.heap H locs → W pp l ee ({ frames := 3, cells := 0, slots := 0, locals := 64 } : Room) ss mm ([.ref (g 0), .int p1] : List Value).toArray bl me co H locs 0 0 (MQ bl (cQv D k (wModel k g s im fr hd nw_0 hh qs qz it th hm ow_0 lo) ss.heap.size (wModel k g s im fr hd nw' hh qs qz it th hm ow' lo)) ([.ref (g 0), .int p1] : List Value).toArray ss 0 0 (va_A (wModel k g s im fr hd nw_0 hh qs qz it th hm ow_0 lo) ss.heap.size)) (F0 mm 0 ls []) := by
    intro H locs _ _ hP hS
    refine lv_aload_n hx hb dX8_looksForOwned_0 rfl (lv_at hl 0 rfl) ?_
    refine lv_iconst (v := 0) hx hb dX8_looksForOwned_1 (by decide) ?_
    obtain ⟨ow1001, e1002, he⟩ := lt_i he
    refine va_put (D := D) (ci := 8) (v := .int 0) (ty := .int) (C := RX8) (T := TX8) (N := 13) hx hb hts iX8 tyX8 tyX8_ok nmX8 hown hK hP hD hS 0 rfl rfl 7 (by decide) w1 (fun _ h9 => h9) rfl (by decide +kernel) rfl rfl (Nat.le_of_ble_eq_true rfl) dX8_looksForOwned_2 (fun H locs hP hD hS => ?_)
    have hP : va_P D vwCl (wModel k g s im fr hd nw_0 hh qs qz it th hm ow1001 lo) H := by rw [e1002]; exact hP
    have hD : va_D _ (wModel k g s im fr hd nw_0 hh qs qz it th hm ow1001 lo) := va_D_adr (by rw [e1002]; rfl) hD
    refine lv_iconst (v := 0) hx hb dX8_looksForOwned_5 (by decide) ?_
    refine lv_istore_n (lv' := [(2, .int 0), (0, .ref (g 0)), (1, .int p1)]) hx hb dX8_looksForOwned_6 rfl hl (by decide) rfl (fun ls hl => ?_)
    exact B7 600 p1 0 nw_0 ow1001 he H locs hP hD hS ls (lv_sub hl [1, 2, 0] rfl)
  exact key ss.heap [] rfl rfl hP hS
theorem kX8_countOf : yX8_countOf.cls = RX8 ∧ yX8_countOf.cls ≠ "java/lang/invoke/MethodHandle" ∧ yX8_countOf.cls ≠ "java/lang/invoke/VarHandle" ∧ (parseMethodDescriptor yX8_countOf.desc).map (fun d => d.parameters.length) = some 1 := by decide +kernel
set_option maxRecDepth 100000 in
set_option maxHeartbeats 4000000 in
theorem mX8_countOf (l : Launch) (D : va_G) (k : Nat → ClassId) (g : Nat → Nat) {s : Nat → Int32} {im : Nat → Int32} {fr : Nat → Int32} {hd : Nat → Int32} {nw : Nat → Int32} {hh : Nat → Int32} {qs : Nat → Int32} {qz : Nat → Int32} {it : Nat → Int64} {th : Int32} {hm : Int32} {ow : Int32} {lo : Int32} {p1 : Int32} {r : Int32}  (he : xX8_countOf p1 = some r) : CtI l D k yX8_countOf wsX8_countOf ({ frames := 0, cells := 0, slots := 0, locals := 0 } : Room) [.ref (g 0), .int p1] (wModel k g s im fr hd nw hh qs qz it th hm ow lo) r (wModel k g s im fr hd nw hh qs qz it th hm ow lo) := by
  intro sz9
  refine cSt (lv := [(0, .ref (g 0)), (1, .int p1)]) (own := RX8) (cc := cX8_countOf) (nL := 4) (ret := (some .int)) (by decide +kernel) rfl rfl (Nat.le_of_ble_eq_true rfl) rfl ?_
  intro pp ee ss mm bl me co hsz hC0 hP hD hS ls hl
  subst hsz
  obtain ⟨hx, hb, hr, hml, hown, hts, hK, hlk⟩ := hC0
  have hA : ∀ q, ss.heap.size ≤ q → va_A (wModel k g s im fr hd nw hh qs qz it th hm ow lo) ss.heap.size q := fun q h => Or.inr h
  have B4 : ∀ (n4 : Nat) (x1 : Int32) (x2 : Int32) (x3 : Int32), xX8_countOf_4 n4 x1 x2 x3 = some r → ∀ (H : Heap) (locs : List Loc), va_P D vwCl (wModel k g s im fr hd nw hh qs qz it th hm ow lo) H → va_D (va_A (wModel k g s im fr hd nw hh qs qz it th hm ow lo) ss.heap.size) (wModel k g s im fr hd nw hh qs qz it th hm ow lo) → va_S (va_A (wModel k g s im fr hd nw hh qs qz it th hm ow lo) ss.heap.size) ss.heap H locs → ∀ ls : Array Slot, lv_has ls 4 [(1, .int x1), (2, .int x2), (3, .int x3)] → W pp l ee ({ frames := 0, cells := 0, slots := 0, locals := 0 } : Room) ss mm ([.ref (g 0), .int p1] : List Value).toArray bl me co H locs 0 0 (MQ bl (cQi D k (wModel k g s im fr hd nw hh qs qz it th hm ow lo) ss.heap.size r (wModel k g s im fr hd nw hh qs qz it th hm ow lo)) ([.ref (g 0), .int p1] : List Value).toArray ss 0 0 (va_A (wModel k g s im fr hd nw hh qs qz it th hm ow lo) ss.heap.size)) (F0 mm 4 ls []) := by
    intro n4
    induction n4 with
    | zero =>
      intro x1 x2 x3 he
      exact absurd (show (none : Option (Int32)) = some r from he) (by simp)
    | succ n4 ih4 =>
      intro x1 x2 x3 he H locs hP hD hS ls hl
      refine lv_iload_n hx hb dX8_countOf_4 rfl (lv_at hl 2 rfl) ?_
      refine lv_bipush (v := 8) hx hb dX8_countOf_5 (by decide) ?_
      refine lv_icmp_ge (tgt := 24) hx hb dX8_countOf_7 (by decide) (fun c1 => ?_) (fun c1 => ?_)
      · have he := ifp he c1
        refine lv_iload_n hx hb dX8_countOf_24 rfl (lv_at hl 1 rfl) ?_
        obtain rfl := some1 he
        exact cRi hx hb hr hlk hK rfl hP hD hS dX8_countOf_25
      · have he := ifn he c1
        refine lv_iload_n hx hb dX8_countOf_10 rfl (lv_at hl 1 rfl) ?_
        refine lv_iload_n hx hb dX8_countOf_11 rfl (lv_at hl 0 rfl) ?_
        refine lv_iload_n hx hb dX8_countOf_12 rfl (lv_at hl 2 rfl) ?_
        refine lv_ishr hx hb dX8_countOf_13 ?_
        refine lv_iconst (v := 1) hx hb dX8_countOf_14 (by decide) ?_
        refine lv_iand hx hb dX8_countOf_15 ?_
        refine lv_iadd hx hb dX8_countOf_16 ?_
        refine lv_istore_n (lv' := [(2, .int (x2 + ((x1 >>> (x3 &&& 31)) &&& 1))), (1, .int x1), (3, .int x3)]) hx hb dX8_countOf_17 rfl hl (by decide) rfl (fun ls hl => ?_)
        refine lv_iinc (v := (x3 + 1)) (lv' := [(3, .int (x3 + 1)), (2, .int (x2 + ((x1 >>> (x3 &&& 31)) &&& 1))), (1, .int x1)]) hx hb dX8_countOf_18 hl (k := 2) rfl rfl (by decide) rfl (fun ls hl => ?_)
        refine lv_goto (tgt := 4) hx hb dX8_countOf_21 (by decide) ?_
        exact ih4 x1 (x2 + ((x1 >>> (x3 &&& 31)) &&& 1)) (x3 + 1) he H locs hP hD hS ls (lv_sub hl [2, 1, 0] rfl)
  have hS0 := hS
  have key : ∀ (H : Heap) (locs : List Loc), H = ss.heap → locs = [] → va_P D vwCl (wModel k g s im fr hd nw hh qs qz it th hm ow lo) H → va_S (va_A (wModel k g s im fr hd nw hh qs qz it th hm ow lo) ss.heap.size) ss.heap H locs → W pp l ee ({ frames := 0, cells := 0, slots := 0, locals := 0 } : Room) ss mm ([.ref (g 0), .int p1] : List Value).toArray bl me co H locs 0 0 (MQ bl (cQi D k (wModel k g s im fr hd nw hh qs qz it th hm ow lo) ss.heap.size r (wModel k g s im fr hd nw hh qs qz it th hm ow lo)) ([.ref (g 0), .int p1] : List Value).toArray ss 0 0 (va_A (wModel k g s im fr hd nw hh qs qz it th hm ow lo) ss.heap.size)) (F0 mm 0 ls []) := by
    intro H locs _ _ hP hS
    refine lv_iconst (v := 0) hx hb dX8_countOf_0 (by decide) ?_
    refine lv_istore_n (lv' := [(2, .int 0), (0, .ref (g 0)), (1, .int p1)]) hx hb dX8_countOf_1 rfl hl (by decide) rfl (fun ls hl => ?_)
    refine lv_iconst (v := 0) hx hb dX8_countOf_2 (by decide) ?_
    refine lv_istore_n (lv' := [(3, .int 0), (2, .int 0), (0, .ref (g 0)), (1, .int p1)]) hx hb dX8_countOf_3 rfl hl (by decide) rfl (fun ls hl => ?_)
    exact B4 600 p1 0 0 he H locs hP hD hS ls (lv_sub hl [3, 1, 0] rfl)
  exact key ss.heap [] rfl rfl hP hS
theorem kX8_looksForHolders : yX8_looksForHolders.cls = RX8 ∧ yX8_looksForHolders.cls ≠ "java/lang/invoke/MethodHandle" ∧ yX8_looksForHolders.cls ≠ "java/lang/invoke/VarHandle" ∧ (parseMethodDescriptor yX8_looksForHolders.desc).map (fun d => d.parameters.length) = some 0 := by decide +kernel
set_option maxRecDepth 100000 in
set_option maxHeartbeats 4000000 in
theorem mX8_looksForHolders (l : Launch) (D : va_G) (k : Nat → ClassId) (g : Nat → Nat) {s : Nat → Int32} {im : Nat → Int32} {fr : Nat → Int32} {hd_0 : Nat → Int32} {nw : Nat → Int32} {hh_0 : Nat → Int32} {qs : Nat → Int32} {qz : Nat → Int32} {it : Nat → Int64} {th : Int32} {hm : Int32} {ow : Int32} {lo : Int32}  {r : Int32} {hd' : Nat → Int32} {hh' : Nat → Int32} (he : xX8_looksForHolders s nw ow hd_0 hh_0 = some (r, hd', hh')) : CtI l D k yX8_looksForHolders wsX8_looksForHolders ({ frames := 6, cells := 0, slots := 0, locals := 129 } : Room) [.ref (g 0)] (wModel k g s im fr hd_0 nw hh_0 qs qz it th hm ow lo) r (wModel k g s im fr hd' nw hh' qs qz it th hm ow lo) := by
  intro sz9
  refine cSt (lv := [(0, .ref (g 0))]) (own := RX8) (cc := cX8_looksForHolders) (nL := 6) (ret := (some .int)) (by decide +kernel) rfl rfl (Nat.le_of_ble_eq_true rfl) rfl ?_
  intro pp ee ss mm bl me co hsz hC0 hP hD hS ls hl
  subst hsz
  obtain ⟨hx, hb, hr, hml, hown, hts, hK, hlk⟩ := hC0
  have hA : ∀ q, ss.heap.size ≤ q → va_A (wModel k g s im fr hd_0 nw hh_0 qs qz it th hm ow lo) ss.heap.size q := fun q h => Or.inr h
  have iX8 : ∀ w ∈ wsX80, w ∈ wsX8_looksForHolders := fun _ h => List.mem_cons_of_mem _ (List.mem_append_right _ h)
  have w2 := hts (.fieldLink RX8 25 "DeadListPoolModel" "holders" "[I") (List.mem_of_getElem? (i := 2) rfl)
  have w5 := hts (.fieldLink RX8 19 "DeadListPoolModel" "holds" "[I") (List.mem_of_getElem? (i := 5) rfl)
  have w4 := hts (.fieldLink RX8 7 "DeadListPoolModel" "s" "[I") (List.mem_of_getElem? (i := 4) rfl)
  have w3 := hts (.fieldLink RX8 22 "DeadListPoolModel" "newest" "[I") (List.mem_of_getElem? (i := 3) rfl)
  have w1 := hts (.fieldLink RX8 139 "DeadListPoolModel" "owns" "I") (List.mem_of_getElem? (i := 1) rfl)
  have B151 : ∀ (n151 : Nat) (x2 : Int32) (x3 : Int32) (hd : Nat → Int32) (hh : Nat → Int32), xX8_looksForHolders_151 s nw ow n151 x2 x3 hd hh = some (r, hd', hh') → ∀ (H : Heap) (locs : List Loc), va_P D vwCl (wModel k g s im fr hd nw hh qs qz it th hm ow lo) H → va_D (va_A (wModel k g s im fr hd_0 nw hh_0 qs qz it th hm ow lo) ss.heap.size) (wModel k g s im fr hd nw hh qs qz it th hm ow lo) → va_S (va_A (wModel k g s im fr hd_0 nw hh_0 qs qz it th hm ow lo) ss.heap.size) ss.heap H locs → ∀ ls : Array Slot, lv_has ls 6 [(0, .ref (g 0)), (2, .int x2), (3, .int x3)] → W pp l ee ({ frames := 6, cells := 0, slots := 0, locals := 129 } : Room) ss mm ([.ref (g 0)] : List Value).toArray bl me co H locs 0 0 (MQ bl (cQi D k (wModel k g s im fr hd_0 nw hh_0 qs qz it th hm ow lo) ss.heap.size r (wModel k g s im fr hd' nw hh' qs qz it th hm ow lo)) ([.ref (g 0)] : List Value).toArray ss 0 0 (va_A (wModel k g s im fr hd_0 nw hh_0 qs qz it th hm ow lo) ss.heap.size)) (F0 mm 151 ls []) := by
    intro n151
    induction n151 with
    | zero =>
      intro x2 x3 hd hh he
      exact absurd (show (none : Option (Int32 × (Nat → Int32) × (Nat → Int32))) = some (r, hd', hh') from he) (by simp)
    | succ n151 ih151 =>
      intro x2 x3 hd hh he H locs hP hD hS ls hl
      refine lv_iload_n hx hb dX8_looksForHolders_151 rfl (lv_at hl 2 rfl) ?_
      refine lv_bipush (v := 96) hx hb dX8_looksForHolders_152 (by decide) ?_
      refine lv_icmp_ge (tgt := 198) hx hb dX8_looksForHolders_154 (by decide) (fun c1 => ?_) (fun c1 => ?_)
      · have he := ifp he c1
        refine lv_iload_n hx hb dX8_looksForHolders_198 rfl (lv_at hl 1 rfl) ?_
        obtain ⟨rfl, rfl, rfl⟩ := some3 he
        exact cRi hx hb hr hlk hK rfl hP hD hS dX8_looksForHolders_199
      · have he := ifn he c1
        refine lv_aload_n hx hb dX8_looksForHolders_157 rfl (lv_at hl 0 rfl) ?_
        refine va_get (D := D) (ci := 8) (v := .ref (g 6)) (C := RX8) (T := TX8) (N := 13) hx hb hts iX8 hown hK hP 0 rfl rfl 8 (by decide) w2 (fun _ h9 => h9) rfl dX8_looksForHolders_158 ?_
        refine lv_iload_n hx hb dX8_looksForHolders_161 rfl (lv_at hl 2 rfl) ?_
        refine lv_aload_n hx hb dX8_looksForHolders_162 rfl (lv_at hl 0 rfl) ?_
        refine lv_aload_n hx hb dX8_looksForHolders_163 rfl (lv_at hl 0 rfl) ?_
        refine va_get (D := D) (ci := 8) (v := .ref (g 6)) (C := RX8) (T := TX8) (N := 13) hx hb hts iX8 hown hK hP 0 rfl rfl 8 (by decide) w2 (fun _ h9 => h9) rfl dX8_looksForHolders_164 ?_
        refine lv_iload_n hx hb dX8_looksForHolders_167 rfl (lv_at hl 2 rfl) ?_
        obtain ⟨h2, he⟩ := grd_i he
        refine va_iald hx hb hK hP 6 0 rfl rfl (ix_in h2) dX8_looksForHolders_168 ?_
        obtain ⟨v3, h4, he⟩ := bn1_i he
        refine cVir (As := [.int (hh (Int32.toNatClampNeg x3))]) (rest := [.int x3, .ref (g 6)]) ⟨hx, hb, hml, hown, hts⟩ hK hA hP hD hS (mX8_countOf l D k g (s := s) (im := im) (fr := fr) (hd := hd) (nw := nw) (hh := hh) (qs := qs) (qz := qz) (it := it) (th := th) (hm := hm) (ow := ow) (lo := lo) h4) (cwV 1 hts gX8_looksForHolders_X8_countOf rfl rfl rfl kX8_countOf ⟨Nat.le_of_ble_eq_true rfl, Nat.le_of_ble_eq_true rfl⟩) [0, 1, 2, 3, 4, 5, 6, 7, 8, 9] rfl rfl 0 rfl rfl rfl hl.1 rfl (Nat.le_of_ble_eq_true rfl) ⟨Nat.le_refl 0, Nat.le_refl 0⟩ dX8_looksForHolders_169 (fun H locs hP hD hS => ?_)
        refine lv_aload_n hx hb dX8_looksForHolders_172 rfl (lv_at hl 0 rfl) ?_
        refine va_get (D := D) (ci := 8) (v := .ref (g 4)) (C := RX8) (T := TX8) (N := 13) hx hb hts iX8 hown hK hP 0 rfl rfl 5 (by decide) w5 (fun _ h9 => h9) rfl dX8_looksForHolders_173 ?_
        refine lv_iload_n hx hb dX8_looksForHolders_176 rfl (lv_at hl 2 rfl) ?_
        obtain ⟨h5, he⟩ := grd_i he
        refine va_iald hx hb hK hP 4 0 rfl rfl (ix_in h5) dX8_looksForHolders_177 ?_
        refine lv_icmp_ne (tgt := 190) hx hb dX8_looksForHolders_178 (by decide) (fun c6 => ?_) (fun c6 => ?_)
        · have he := ifn he c6
          refine lv_iconst (v := 0) hx hb dX8_looksForHolders_190 (by decide) ?_
          obtain ⟨h7, he⟩ := grd_i he
          obtain ⟨hh8, e9, he⟩ := lt_i he
          refine va_iast hx hb hK hP hD hS 6 0 rfl rfl (ix_in h7) dX8_looksForHolders_191 (fun H locs hP hD hS => ?_)
          have hP : va_P D vwCl (wModel k g s im fr hd nw hh8 qs qz it th hm ow lo) H := by rw [e9]; exact hP
          have hD : va_D _ (wModel k g s im fr hd nw hh8 qs qz it th hm ow lo) := va_D_adr (by rw [e9]; rfl) hD
          refine lv_iinc (v := (x3 + 1)) (lv' := [(3, .int (x3 + 1)), (0, .ref (g 0)), (2, .int x2)]) hx hb dX8_looksForHolders_192 hl (k := 2) rfl rfl (by decide) rfl (fun ls hl => ?_)
          refine lv_goto (tgt := 151) hx hb dX8_looksForHolders_195 (by decide) ?_
          exact ih151 x2 (x3 + 1) hd hh8 he H locs hP hD hS ls (lv_sub hl [1, 2, 0] rfl)
        · have he := ifp he c6
          refine lv_aload_n hx hb dX8_looksForHolders_181 rfl (lv_at hl 0 rfl) ?_
          refine va_get (D := D) (ci := 8) (v := .ref (g 6)) (C := RX8) (T := TX8) (N := 13) hx hb hts iX8 hown hK hP 0 rfl rfl 8 (by decide) w2 (fun _ h9 => h9) rfl dX8_looksForHolders_182 ?_
          refine lv_iload_n hx hb dX8_looksForHolders_185 rfl (lv_at hl 2 rfl) ?_
          obtain ⟨h10, he⟩ := grd_i he
          refine va_iald hx hb hK hP 6 0 rfl rfl (ix_in h10) dX8_looksForHolders_186 ?_
          refine lv_goto (tgt := 191) hx hb dX8_looksForHolders_187 (by decide) ?_
          obtain ⟨h11, he⟩ := grd_i he
          obtain ⟨hh12, e13, he⟩ := lt_i he
          refine va_iast hx hb hK hP hD hS 6 0 rfl rfl (ix_in h11) dX8_looksForHolders_191 (fun H locs hP hD hS => ?_)
          have hP : va_P D vwCl (wModel k g s im fr hd nw hh12 qs qz it th hm ow lo) H := by rw [e13]; exact hP
          have hD : va_D _ (wModel k g s im fr hd nw hh12 qs qz it th hm ow lo) := va_D_adr (by rw [e13]; rfl) hD
          refine lv_iinc (v := (x3 + 1)) (lv' := [(3, .int (x3 + 1)), (0, .ref (g 0)), (2, .int x2)]) hx hb dX8_looksForHolders_192 hl (k := 2) rfl rfl (by decide) rfl (fun ls hl => ?_)
          refine lv_goto (tgt := 151) hx hb dX8_looksForHolders_195 (by decide) ?_
          exact ih151 x2 (x3 + 1) hd hh12 he H locs hP hD hS ls (lv_sub hl [1, 2, 0] rfl)
  have B48 : ∀ (n48 : Nat) (x1 : Int32) (x2 : Int32) (x3 : Int32) (hd : Nat → Int32) (hh : Nat → Int32), xX8_looksForHolders_48 s nw ow n48 x1 x2 x3 hd hh = some (r, hd', hh') → ∀ (H : Heap) (locs : List Loc), va_P D vwCl (wModel k g s im fr hd nw hh qs qz it th hm ow lo) H → va_D (va_A (wModel k g s im fr hd_0 nw hh_0 qs qz it th hm ow lo) ss.heap.size) (wModel k g s im fr hd nw hh qs qz it th hm ow lo) → va_S (va_A (wModel k g s im fr hd_0 nw hh_0 qs qz it th hm ow lo) ss.heap.size) ss.heap H locs → ∀ ls : Array Slot, lv_has ls 6 [(0, .ref (g 0)), (1, .int x1), (2, .int x2), (3, .int x3)] → W pp l ee ({ frames := 6, cells := 0, slots := 0, locals := 129 } : Room) ss mm ([.ref (g 0)] : List Value).toArray bl me co H locs 0 0 (MQ bl (cQi D k (wModel k g s im fr hd_0 nw hh_0 qs qz it th hm ow lo) ss.heap.size r (wModel k g s im fr hd' nw hh' qs qz it th hm ow lo)) ([.ref (g 0)] : List Value).toArray ss 0 0 (va_A (wModel k g s im fr hd_0 nw hh_0 qs qz it th hm ow lo) ss.heap.size)) (F0 mm 48 ls []) := by
    intro n48
    induction n48 with
    | zero =>
      intro x1 x2 x3 hd hh he
      exact absurd (show (none : Option (Int32 × (Nat → Int32) × (Nat → Int32))) = some (r, hd', hh') from he) (by simp)
    | succ n48 ih48 =>
      have B83 : ∀ (n83 : Nat) (x1 : Int32) (x2 : Int32) (x3 : Int32) (x4 : Int32) (x5 : Int32) (hd : Nat → Int32) (hh : Nat → Int32), xX8_looksForHolders_83 s nw ow (xX8_looksForHolders_48 s nw ow n48) n83 x1 x2 x3 x4 x5 hd hh = some (r, hd', hh') → ∀ (H : Heap) (locs : List Loc), va_P D vwCl (wModel k g s im fr hd nw hh qs qz it th hm ow lo) H → va_D (va_A (wModel k g s im fr hd_0 nw hh_0 qs qz it th hm ow lo) ss.heap.size) (wModel k g s im fr hd nw hh qs qz it th hm ow lo) → va_S (va_A (wModel k g s im fr hd_0 nw hh_0 qs qz it th hm ow lo) ss.heap.size) ss.heap H locs → ∀ ls : Array Slot, lv_has ls 6 [(0, .ref (g 0)), (1, .int x1), (2, .int x2), (3, .int x3), (4, .int x4), (5, .int x5)] → W pp l ee ({ frames := 6, cells := 0, slots := 0, locals := 129 } : Room) ss mm ([.ref (g 0)] : List Value).toArray bl me co H locs 0 0 (MQ bl (cQi D k (wModel k g s im fr hd_0 nw hh_0 qs qz it th hm ow lo) ss.heap.size r (wModel k g s im fr hd' nw hh' qs qz it th hm ow lo)) ([.ref (g 0)] : List Value).toArray ss 0 0 (va_A (wModel k g s im fr hd_0 nw hh_0 qs qz it th hm ow lo) ss.heap.size)) (F0 mm 83 ls []) := by
        intro n83
        induction n83 with
        | zero =>
          intro x1 x2 x3 x4 x5 hd hh he
          exact absurd (show (none : Option (Int32 × (Nat → Int32) × (Nat → Int32))) = some (r, hd', hh') from he) (by simp)
        | succ n83 ih83 =>
          intro x1 x2 x3 x4 x5 hd hh he H locs hP hD hS ls hl
          refine lv_iload hx hb dX8_looksForHolders_83 (lv_at hl 5 rfl) ?_
          refine lv_bipush (v := 12) hx hb dX8_looksForHolders_85 (by decide) ?_
          refine lv_icmp_ge (tgt := 143) hx hb dX8_looksForHolders_87 (by decide) (fun c14 => ?_) (fun c14 => ?_)
          · have he := ifp he c14
            refine lv_iinc (v := (x3 + 1)) (lv' := [(3, .int (x3 + 1)), (0, .ref (g 0)), (1, .int x1), (2, .int x2), (4, .int x4), (5, .int x5)]) hx hb dX8_looksForHolders_143 hl (k := 3) rfl rfl (by decide) rfl (fun ls hl => ?_)
            refine lv_goto (tgt := 48) hx hb dX8_looksForHolders_146 (by decide) ?_
            exact ih48 x1 x2 (x3 + 1) hd hh he H locs hP hD hS ls (lv_sub hl [1, 2, 3, 0] rfl)
          · have he := ifn he c14
            refine lv_aload_n hx hb dX8_looksForHolders_90 rfl (lv_at hl 0 rfl) ?_
            refine va_get (D := D) (ci := 8) (v := .ref (g 1)) (C := RX8) (T := TX8) (N := 13) hx hb hts iX8 hown hK hP 0 rfl rfl 1 (by decide) w4 (fun _ h9 => h9) rfl dX8_looksForHolders_91 ?_
            refine lv_bipush (v := 122) hx hb dX8_looksForHolders_94 (by decide) ?_
            refine lv_bipush (v := 12) hx hb dX8_looksForHolders_96 (by decide) ?_
            refine lv_iload hx hb dX8_looksForHolders_98 (lv_at hl 4 rfl) ?_
            refine lv_imul hx hb dX8_looksForHolders_100 ?_
            refine lv_iadd hx hb dX8_looksForHolders_101 ?_
            refine lv_iload hx hb dX8_looksForHolders_102 (lv_at hl 5 rfl) ?_
            refine lv_iadd hx hb dX8_looksForHolders_104 ?_
            obtain ⟨h15, he⟩ := grd_i he
            refine va_iald hx hb hK hP 1 0 rfl rfl (ix_in h15) dX8_looksForHolders_105 ?_
            refine lv_iconst (v := (-1)) hx hb dX8_looksForHolders_106 (by decide) ?_
            refine lv_icmp_eq (tgt := 137) hx hb dX8_looksForHolders_107 (by decide) (fun c16 => ?_) (fun c16 => ?_)
            · have he := ifp he c16
              refine lv_iinc (v := (x5 + 1)) (lv' := [(5, .int (x5 + 1)), (0, .ref (g 0)), (1, .int x1), (2, .int x2), (3, .int x3), (4, .int x4)]) hx hb dX8_looksForHolders_137 hl (k := 5) rfl rfl (by decide) rfl (fun ls hl => ?_)
              refine lv_goto (tgt := 83) hx hb dX8_looksForHolders_140 (by decide) ?_
              exact ih83 x1 x2 x3 x4 (x5 + 1) hd hh he H locs hP hD hS ls (lv_sub hl [1, 2, 3, 4, 5, 0] rfl)
            · have he := ifn he c16
              refine lv_aload_n hx hb dX8_looksForHolders_110 rfl (lv_at hl 0 rfl) ?_
              refine va_get (D := D) (ci := 8) (v := .ref (g 6)) (C := RX8) (T := TX8) (N := 13) hx hb hts iX8 hown hK hP 0 rfl rfl 8 (by decide) w2 (fun _ h9 => h9) rfl dX8_looksForHolders_111 ?_
              refine lv_aload_n hx hb dX8_looksForHolders_114 rfl (lv_at hl 0 rfl) ?_
              refine va_get (D := D) (ci := 8) (v := .ref (g 1)) (C := RX8) (T := TX8) (N := 13) hx hb hts iX8 hown hK hP 0 rfl rfl 1 (by decide) w4 (fun _ h9 => h9) rfl dX8_looksForHolders_115 ?_
              refine lv_bipush (v := 122) hx hb dX8_looksForHolders_118 (by decide) ?_
              refine lv_bipush (v := 12) hx hb dX8_looksForHolders_120 (by decide) ?_
              refine lv_iload hx hb dX8_looksForHolders_122 (lv_at hl 4 rfl) ?_
              refine lv_imul hx hb dX8_looksForHolders_124 ?_
              refine lv_iadd hx hb dX8_looksForHolders_125 ?_
              refine lv_iload hx hb dX8_looksForHolders_126 (lv_at hl 5 rfl) ?_
              refine lv_iadd hx hb dX8_looksForHolders_128 ?_
              obtain ⟨h17, he⟩ := grd_i he
              refine va_iald hx hb hK hP 1 0 rfl rfl (ix_in h17) dX8_looksForHolders_129 ?_
              refine lv_dup2_11 hx hb dX8_looksForHolders_130 rfl rfl ?_
              obtain ⟨h18, he⟩ := grd_i he
              refine va_iald hx hb hK hP 6 0 rfl rfl (ix_in h18) dX8_looksForHolders_131 ?_
              refine lv_iconst (v := 1) hx hb dX8_looksForHolders_132 (by decide) ?_
              refine lv_iload_n hx hb dX8_looksForHolders_133 rfl (lv_at hl 3 rfl) ?_
              refine lv_ishl hx hb dX8_looksForHolders_134 ?_
              refine lv_ior hx hb dX8_looksForHolders_135 ?_
              obtain ⟨h19, he⟩ := grd_i he
              obtain ⟨hh20, e21, he⟩ := lt_i he
              refine va_iast hx hb hK hP hD hS 6 0 rfl rfl (ix_in h19) dX8_looksForHolders_136 (fun H locs hP hD hS => ?_)
              have hP : va_P D vwCl (wModel k g s im fr hd nw hh20 qs qz it th hm ow lo) H := by rw [e21]; exact hP
              have hD : va_D _ (wModel k g s im fr hd nw hh20 qs qz it th hm ow lo) := va_D_adr (by rw [e21]; rfl) hD
              refine lv_iinc (v := (x5 + 1)) (lv' := [(5, .int (x5 + 1)), (0, .ref (g 0)), (1, .int x1), (2, .int x2), (3, .int x3), (4, .int x4)]) hx hb dX8_looksForHolders_137 hl (k := 5) rfl rfl (by decide) rfl (fun ls hl => ?_)
              refine lv_goto (tgt := 83) hx hb dX8_looksForHolders_140 (by decide) ?_
              exact ih83 x1 x2 x3 x4 (x5 + 1) hd hh20 he H locs hP hD hS ls (lv_sub hl [1, 2, 3, 4, 5, 0] rfl)
      intro x1 x2 x3 hd hh he H locs hP hD hS ls hl
      refine lv_iload_n hx hb dX8_looksForHolders_48 rfl (lv_at hl 3 rfl) ?_
      refine lv_iload_n hx hb dX8_looksForHolders_49 rfl (lv_at hl 1 rfl) ?_
      refine lv_icmp_ge (tgt := 149) hx hb dX8_looksForHolders_50 (by decide) (fun c22 => ?_) (fun c22 => ?_)
      · have he := ifp he c22
        refine lv_iconst (v := 0) hx hb dX8_looksForHolders_149 (by decide) ?_
        refine lv_istore_n (lv' := [(3, .int 0), (0, .ref (g 0)), (1, .int x1), (2, .int x2)]) hx hb dX8_looksForHolders_150 rfl hl (by decide) rfl (fun ls hl => ?_)
        exact B151 600 x2 0 hd hh he H locs hP hD hS ls (lv_sub hl [1, 3, 0] rfl)
      · have he := ifn he c22
        refine lv_aload_n hx hb dX8_looksForHolders_53 rfl (lv_at hl 0 rfl) ?_
        refine va_get (D := D) (ci := 8) (v := .ref (g 5)) (C := RX8) (T := TX8) (N := 13) hx hb hts iX8 hown hK hP 0 rfl rfl 6 (by decide) w3 (fun _ h9 => h9) rfl dX8_looksForHolders_54 ?_
        refine lv_iload_n hx hb dX8_looksForHolders_57 rfl (lv_at hl 3 rfl) ?_
        obtain ⟨h23, he⟩ := grd_i he
        refine va_iald hx hb hK hP 5 0 rfl rfl (ix_in h23) dX8_looksForHolders_58 ?_
        refine lv_istore (lv' := [(4, .int (nw (Int32.toNatClampNeg x3))), (0, .ref (g 0)), (1, .int x1), (2, .int x2), (3, .int x3)]) hx hb dX8_looksForHolders_59 hl (by decide) rfl (fun ls hl => ?_)
        refine lv_iload_n hx hb dX8_looksForHolders_61 rfl (lv_at hl 3 rfl) ?_
        refine lv_aload_n hx hb dX8_looksForHolders_62 rfl (lv_at hl 1 rfl) ?_
        refine lv_iload hx hb dX8_looksForHolders_63 (lv_at hl 0 rfl) ?_
        obtain ⟨v24, h25, he⟩ := bn1_i he
        refine cVir (As := [.int (nw (Int32.toNatClampNeg x3))]) (rest := [.int x2]) ⟨hx, hb, hml, hown, hts⟩ hK hA hP hD hS (mX8_isLoose l D k g (s := s) (im := im) (fr := fr) (hd := hd) (nw := nw) (hh := hh) (qs := qs) (qz := qz) (it := it) (th := th) (hm := hm) (ow := ow) (lo := lo) h25) (cwV 1 hts gX8_looksForHolders_X8_isLoose rfl rfl rfl kX8_isLoose ⟨Nat.le_of_ble_eq_true rfl, Nat.le_of_ble_eq_true rfl⟩) [0, 1, 2, 3, 4, 5, 6, 7, 8, 9] rfl rfl 0 rfl rfl rfl hl.1 rfl (Nat.le_of_ble_eq_true rfl) ⟨Nat.le_refl 0, Nat.le_refl 0⟩ dX8_looksForHolders_65 (fun H locs hP hD hS => ?_)
        refine lv_if_eq (tgt := 77) hx hb dX8_looksForHolders_68 (by decide) (fun c26 => ?_) (fun c26 => ?_)
        · have he := ifp he c26
          refine lv_iconst (v := 0) hx hb dX8_looksForHolders_77 (by decide) ?_
          refine lv_ior hx hb dX8_looksForHolders_78 ?_
          refine lv_istore_n (lv' := [(2, .int (x2 ||| 0)), (4, .int (nw (Int32.toNatClampNeg x3))), (0, .ref (g 0)), (1, .int x1), (3, .int x3)]) hx hb dX8_looksForHolders_79 rfl hl (by decide) rfl (fun ls hl => ?_)
          refine lv_iconst (v := 0) hx hb dX8_looksForHolders_80 (by decide) ?_
          refine lv_istore (lv' := [(5, .int 0), (2, .int (x2 ||| 0)), (4, .int (nw (Int32.toNatClampNeg x3))), (0, .ref (g 0)), (1, .int x1), (3, .int x3)]) hx hb dX8_looksForHolders_81 hl (by decide) rfl (fun ls hl => ?_)
          exact B83 600 x1 (x2 ||| 0) x3 (nw (Int32.toNatClampNeg x3)) 0 hd hh he H locs hP hD hS ls (lv_sub hl [3, 4, 1, 5, 2, 0] rfl)
        · have he := ifn he c26
          refine lv_iconst (v := 1) hx hb dX8_looksForHolders_71 (by decide) ?_
          refine lv_iload_n hx hb dX8_looksForHolders_72 rfl (lv_at hl 4 rfl) ?_
          refine lv_ishl hx hb dX8_looksForHolders_73 ?_
          refine lv_goto (tgt := 78) hx hb dX8_looksForHolders_74 (by decide) ?_
          refine lv_ior hx hb dX8_looksForHolders_78 ?_
          refine lv_istore_n (lv' := [(2, .int (x2 ||| (1 <<< (x3 &&& 31)))), (4, .int (nw (Int32.toNatClampNeg x3))), (0, .ref (g 0)), (1, .int x1), (3, .int x3)]) hx hb dX8_looksForHolders_79 rfl hl (by decide) rfl (fun ls hl => ?_)
          refine lv_iconst (v := 0) hx hb dX8_looksForHolders_80 (by decide) ?_
          refine lv_istore (lv' := [(5, .int 0), (2, .int (x2 ||| (1 <<< (x3 &&& 31)))), (4, .int (nw (Int32.toNatClampNeg x3))), (0, .ref (g 0)), (1, .int x1), (3, .int x3)]) hx hb dX8_looksForHolders_81 hl (by decide) rfl (fun ls hl => ?_)
          exact B83 600 x1 (x2 ||| (1 <<< (x3 &&& 31))) x3 (nw (Int32.toNatClampNeg x3)) 0 hd hh he H locs hP hD hS ls (lv_sub hl [3, 4, 1, 5, 2, 0] rfl)
  have B27 : ∀ (n27 : Nat) (x1 : Int32) (x2 : Int32) (x3 : Int32) (hd : Nat → Int32) (hh : Nat → Int32), xX8_looksForHolders_27 s nw ow n27 x1 x2 x3 hd hh = some (r, hd', hh') → ∀ (H : Heap) (locs : List Loc), va_P D vwCl (wModel k g s im fr hd nw hh qs qz it th hm ow lo) H → va_D (va_A (wModel k g s im fr hd_0 nw hh_0 qs qz it th hm ow lo) ss.heap.size) (wModel k g s im fr hd nw hh qs qz it th hm ow lo) → va_S (va_A (wModel k g s im fr hd_0 nw hh_0 qs qz it th hm ow lo) ss.heap.size) ss.heap H locs → ∀ ls : Array Slot, lv_has ls 6 [(0, .ref (g 0)), (1, .int x1), (2, .int x2), (3, .int x3)] → W pp l ee ({ frames := 6, cells := 0, slots := 0, locals := 129 } : Room) ss mm ([.ref (g 0)] : List Value).toArray bl me co H locs 0 0 (MQ bl (cQi D k (wModel k g s im fr hd_0 nw hh_0 qs qz it th hm ow lo) ss.heap.size r (wModel k g s im fr hd' nw hh' qs qz it th hm ow lo)) ([.ref (g 0)] : List Value).toArray ss 0 0 (va_A (wModel k g s im fr hd_0 nw hh_0 qs qz it th hm ow lo) ss.heap.size)) (F0 mm 27 ls []) := by
    intro n27
    induction n27 with
    | zero =>
      intro x1 x2 x3 hd hh he
      exact absurd (show (none : Option (Int32 × (Nat → Int32) × (Nat → Int32))) = some (r, hd', hh') from he) (by simp)
    | succ n27 ih27 =>
      intro x1 x2 x3 hd hh he H locs hP hD hS ls hl
      refine lv_iload_n hx hb dX8_looksForHolders_27 rfl (lv_at hl 3 rfl) ?_
      refine lv_bipush (v := 96) hx hb dX8_looksForHolders_28 (by decide) ?_
      refine lv_icmp_ge (tgt := 46) hx hb dX8_looksForHolders_30 (by decide) (fun c27 => ?_) (fun c27 => ?_)
      · have he := ifp he c27
        refine lv_iconst (v := 0) hx hb dX8_looksForHolders_46 (by decide) ?_
        refine lv_istore_n (lv' := [(3, .int 0), (0, .ref (g 0)), (1, .int x1), (2, .int x2)]) hx hb dX8_looksForHolders_47 rfl hl (by decide) rfl (fun ls hl => ?_)
        exact B48 600 x1 x2 0 hd hh he H locs hP hD hS ls (lv_sub hl [1, 2, 3, 0] rfl)
      · have he := ifn he c27
        refine lv_aload_n hx hb dX8_looksForHolders_33 rfl (lv_at hl 0 rfl) ?_
        refine va_get (D := D) (ci := 8) (v := .ref (g 6)) (C := RX8) (T := TX8) (N := 13) hx hb hts iX8 hown hK hP 0 rfl rfl 8 (by decide) w2 (fun _ h9 => h9) rfl dX8_looksForHolders_34 ?_
        refine lv_iload_n hx hb dX8_looksForHolders_37 rfl (lv_at hl 3 rfl) ?_
        refine lv_iconst (v := 0) hx hb dX8_looksForHolders_38 (by decide) ?_
        obtain ⟨h28, he⟩ := grd_i he
        obtain ⟨hh29, e30, he⟩ := lt_i he
        refine va_iast hx hb hK hP hD hS 6 0 rfl rfl (ix_in h28) dX8_looksForHolders_39 (fun H locs hP hD hS => ?_)
        have hP : va_P D vwCl (wModel k g s im fr hd nw hh29 qs qz it th hm ow lo) H := by rw [e30]; exact hP
        have hD : va_D _ (wModel k g s im fr hd nw hh29 qs qz it th hm ow lo) := va_D_adr (by rw [e30]; rfl) hD
        refine lv_iinc (v := (x3 + 1)) (lv' := [(3, .int (x3 + 1)), (0, .ref (g 0)), (1, .int x1), (2, .int x2)]) hx hb dX8_looksForHolders_40 hl (k := 3) rfl rfl (by decide) rfl (fun ls hl => ?_)
        refine lv_goto (tgt := 27) hx hb dX8_looksForHolders_43 (by decide) ?_
        exact ih27 x1 x2 (x3 + 1) hd hh29 he H locs hP hD hS ls (lv_sub hl [1, 2, 3, 0] rfl)
  have B18 : ∀ (y0 : Int32) (hd : Nat → Int32) (hh : Nat → Int32), xX8_looksForHolders_18 s nw ow y0 hd hh = some (r, hd', hh') → ∀ (H : Heap) (locs : List Loc), va_P D vwCl (wModel k g s im fr hd nw hh qs qz it th hm ow lo) H → va_D (va_A (wModel k g s im fr hd_0 nw hh_0 qs qz it th hm ow lo) ss.heap.size) (wModel k g s im fr hd nw hh qs qz it th hm ow lo) → va_S (va_A (wModel k g s im fr hd_0 nw hh_0 qs qz it th hm ow lo) ss.heap.size) ss.heap H locs → ∀ ls : Array Slot, lv_has ls 6 [(0, .ref (g 0))] → W pp l ee ({ frames := 6, cells := 0, slots := 0, locals := 129 } : Room) ss mm ([.ref (g 0)] : List Value).toArray bl me co H locs 0 0 (MQ bl (cQi D k (wModel k g s im fr hd_0 nw hh_0 qs qz it th hm ow lo) ss.heap.size r (wModel k g s im fr hd' nw hh' qs qz it th hm ow lo)) ([.ref (g 0)] : List Value).toArray ss 0 0 (va_A (wModel k g s im fr hd_0 nw hh_0 qs qz it th hm ow lo) ss.heap.size)) (F0 mm 18 ls [.int y0]) := by
    intro y0 hd hh he H locs hP hD hS ls hl
    refine lv_istore_n (lv' := [(1, .int y0), (0, .ref (g 0))]) hx hb dX8_looksForHolders_18 rfl hl (by decide) rfl (fun ls hl => ?_)
    refine lv_iconst (v := 0) hx hb dX8_looksForHolders_19 (by decide) ?_
    refine lv_istore_n (lv' := [(2, .int 0), (1, .int y0), (0, .ref (g 0))]) hx hb dX8_looksForHolders_20 rfl hl (by decide) rfl (fun ls hl => ?_)
    refine lv_aload_n hx hb dX8_looksForHolders_21 rfl (lv_at hl 2 rfl) ?_
    obtain ⟨hd31, h32, he⟩ := bn1_i he
    refine cVv (wf := (wModel k g s im fr hd31 nw hh qs qz it th hm ow lo)) (As := []) (rest := []) ⟨hx, hb, hml, hown, hts⟩ hK hA hP hD hS (mX8_counts l D k g (s := s) (im := im) (fr := fr) (hd_0 := hd) (nw := nw) (hh := hh) (qs := qs) (qz := qz) (it := it) (th := th) (hm := hm) (ow := ow) (lo := lo) h32) (cwV 0 hts gX8_looksForHolders_X8_counts rfl rfl rfl kX8_counts ⟨Nat.le_of_ble_eq_true rfl, Nat.le_of_ble_eq_true rfl⟩) [0, 1, 2, 3, 4, 5, 6, 7, 8, 9] rfl rfl rfl [false, false, false, false, false, false, false, false, false, false] trivial 10 rfl (by decide +kernel) rfl 0 rfl rfl rfl hl.1 rfl (Nat.le_of_ble_eq_true rfl) ⟨Nat.le_refl 0, Nat.le_refl 0⟩ dX8_looksForHolders_22 (fun H locs hP hD hS => ?_)
    refine lv_iconst (v := 0) hx hb dX8_looksForHolders_25 (by decide) ?_
    refine lv_istore_n (lv' := [(3, .int 0), (2, .int 0), (1, .int y0), (0, .ref (g 0))]) hx hb dX8_looksForHolders_26 rfl hl (by decide) rfl (fun ls hl => ?_)
    exact B27 600 y0 0 0 hd31 hh he H locs hP hD hS ls (lv_sub hl [3, 2, 1, 0] rfl)
  have hS0 := hS
  have key : ∀ (H : Heap) (locs : List Loc), H = ss.heap → locs = [] → va_P D vwCl (wModel k g s im fr hd_0 nw hh_0 qs qz it th hm ow lo) H → va_S (va_A (wModel k g s im fr hd_0 nw hh_0 qs qz it th hm ow lo) ss.heap.size) ss.heap H locs → W pp l ee ({ frames := 6, cells := 0, slots := 0, locals := 129 } : Room) ss mm ([.ref (g 0)] : List Value).toArray bl me co H locs 0 0 (MQ bl (cQi D k (wModel k g s im fr hd_0 nw hh_0 qs qz it th hm ow lo) ss.heap.size r (wModel k g s im fr hd' nw hh' qs qz it th hm ow lo)) ([.ref (g 0)] : List Value).toArray ss 0 0 (va_A (wModel k g s im fr hd_0 nw hh_0 qs qz it th hm ow lo) ss.heap.size)) (F0 mm 0 ls []) := by
    intro H locs _ _ hP hS
    refine lv_aload_n hx hb dX8_looksForHolders_0 rfl (lv_at hl 0 rfl) ?_
    refine va_get (D := D) (ci := 8) (v := .int ow) (C := RX8) (T := TX8) (N := 13) hx hb hts iX8 hown hK hP 0 rfl rfl 7 (by decide) w1 (fun _ h9 => h9) rfl dX8_looksForHolders_1 ?_
    refine lv_bipush (v := 8) hx hb dX8_looksForHolders_4 (by decide) ?_
    refine lv_icmp_ge (tgt := 16) hx hb dX8_looksForHolders_6 (by decide) (fun c1001 => ?_) (fun c1001 => ?_)
    · have he := ifp he c1001
      refine lv_bipush (v := 8) hx hb dX8_looksForHolders_16 (by decide) ?_
      exact B18 8 hd_0 hh_0 he H locs hP hD hS ls (lv_sub hl [0] rfl)
    · have he := ifn he c1001
      refine lv_aload_n hx hb dX8_looksForHolders_9 rfl (lv_at hl 0 rfl) ?_
      refine va_get (D := D) (ci := 8) (v := .int ow) (C := RX8) (T := TX8) (N := 13) hx hb hts iX8 hown hK hP 0 rfl rfl 7 (by decide) w1 (fun _ h9 => h9) rfl dX8_looksForHolders_10 ?_
      refine lv_goto (tgt := 18) hx hb dX8_looksForHolders_13 (by decide) ?_
      exact B18 ow hd_0 hh_0 he H locs hP hD hS ls (lv_sub hl [0] rfl)
  exact key ss.heap [] rfl rfl hP hS
theorem kX8_freedBy : yX8_freedBy.cls = RX8 ∧ yX8_freedBy.cls ≠ "java/lang/invoke/MethodHandle" ∧ yX8_freedBy.cls ≠ "java/lang/invoke/VarHandle" ∧ (parseMethodDescriptor yX8_freedBy.desc).map (fun d => d.parameters.length) = some 1 := by decide +kernel
set_option maxRecDepth 100000 in
set_option maxHeartbeats 4000000 in
theorem mX8_freedBy (l : Launch) (D : va_G) (k : Nat → ClassId) (g : Nat → Nat) {s : Nat → Int32} {im : Nat → Int32} {fr : Nat → Int32} {hd : Nat → Int32} {nw : Nat → Int32} {hh : Nat → Int32} {qs : Nat → Int32} {qz : Nat → Int32} {it : Nat → Int64} {th : Int32} {hm : Int32} {ow : Int32} {lo : Int32} {p1 : Int32} {r : Int64}  (he : xX8_freedBy s hh p1 = some r) : CtL l D k yX8_freedBy wsX8_freedBy ({ frames := 0, cells := 0, slots := 0, locals := 0 } : Room) [.ref (g 0), .int p1] (wModel k g s im fr hd nw hh qs qz it th hm ow lo) r (wModel k g s im fr hd nw hh qs qz it th hm ow lo) := by
  intro sz9
  refine cSt (lv := [(0, .ref (g 0)), (1, .int p1)]) (own := RX8) (cc := cX8_freedBy) (nL := 5) (ret := (some .long)) (by decide +kernel) rfl rfl (Nat.le_of_ble_eq_true rfl) rfl ?_
  intro pp ee ss mm bl me co hsz hC0 hP hD hS ls hl
  subst hsz
  obtain ⟨hx, hb, hr, hml, hown, hts, hK, hlk⟩ := hC0
  have hA : ∀ q, ss.heap.size ≤ q → va_A (wModel k g s im fr hd nw hh qs qz it th hm ow lo) ss.heap.size q := fun q h => Or.inr h
  have iX8 : ∀ w ∈ wsX80, w ∈ wsX8_freedBy := fun _ h => List.mem_cons_of_mem _ (List.mem_append_right _ h)
  have w1 := hts (.fieldLink RX8 25 "DeadListPoolModel" "holders" "[I") (List.mem_of_getElem? (i := 1) rfl)
  have w2 := hts (.fieldLink RX8 7 "DeadListPoolModel" "s" "[I") (List.mem_of_getElem? (i := 2) rfl)
  have B5 : ∀ (n5 : Nat) (x1 : Int32) (x2 : Int64) (x4 : Int32), xX8_freedBy_5 s hh n5 x1 x2 x4 = some r → ∀ (H : Heap) (locs : List Loc), va_P D vwCl (wModel k g s im fr hd nw hh qs qz it th hm ow lo) H → va_D (va_A (wModel k g s im fr hd nw hh qs qz it th hm ow lo) ss.heap.size) (wModel k g s im fr hd nw hh qs qz it th hm ow lo) → va_S (va_A (wModel k g s im fr hd nw hh qs qz it th hm ow lo) ss.heap.size) ss.heap H locs → ∀ ls : Array Slot, lv_has ls 5 [(0, .ref (g 0)), (1, .int x1), (2, .long x2), (4, .int x4)] → W pp l ee ({ frames := 0, cells := 0, slots := 0, locals := 0 } : Room) ss mm ([.ref (g 0), .int p1] : List Value).toArray bl me co H locs 0 0 (MQ bl (cQl D k (wModel k g s im fr hd nw hh qs qz it th hm ow lo) ss.heap.size r (wModel k g s im fr hd nw hh qs qz it th hm ow lo)) ([.ref (g 0), .int p1] : List Value).toArray ss 0 0 (va_A (wModel k g s im fr hd nw hh qs qz it th hm ow lo) ss.heap.size)) (F0 mm 5 ls []) := by
    intro n5
    induction n5 with
    | zero =>
      intro x1 x2 x4 he
      exact absurd (show (none : Option (Int64)) = some r from he) (by simp)
    | succ n5 ih5 =>
      intro x1 x2 x4 he H locs hP hD hS ls hl
      refine lv_iload hx hb dX8_freedBy_5 (lv_at hl 3 rfl) ?_
      refine lv_bipush (v := 96) hx hb dX8_freedBy_7 (by decide) ?_
      refine lv_icmp_ge (tgt := 61) hx hb dX8_freedBy_9 (by decide) (fun c1 => ?_) (fun c1 => ?_)
      · have he := ifp he c1
        refine lv_lload_n hx hb dX8_freedBy_61 rfl (lv_at hl 2 rfl) ?_
        obtain rfl := some1 he
        exact cRl hx hb hr hlk hK hP hD hS dX8_freedBy_62
      · have he := ifn he c1
        refine lv_lload_n hx hb dX8_freedBy_12 rfl (lv_at hl 2 rfl) ?_
        refine lv_aload_n hx hb dX8_freedBy_13 rfl (lv_at hl 0 rfl) ?_
        refine va_get (D := D) (ci := 8) (v := .ref (g 6)) (C := RX8) (T := TX8) (N := 13) hx hb hts iX8 hown hK hP 0 rfl rfl 8 (by decide) w1 (fun _ h9 => h9) rfl dX8_freedBy_14 ?_
        refine lv_iload hx hb dX8_freedBy_17 (lv_at hl 3 rfl) ?_
        obtain ⟨h2, he⟩ := grd_i he
        refine va_iald hx hb hK hP 6 0 rfl rfl (ix_in h2) dX8_freedBy_19 ?_
        refine lv_if_eq (tgt := 52) hx hb dX8_freedBy_20 (by decide) (fun c3 => ?_) (fun c3 => ?_)
        · have he := ifp he c3
          refine lv_lconst (v := 0) hx hb dX8_freedBy_52 (by decide) ?_
          refine lv_ladd hx hb dX8_freedBy_53 ?_
          refine lv_lstore_n (lv' := [(2, .long (x2 + 0)), (0, .ref (g 0)), (1, .int x1), (4, .int x4)]) hx hb dX8_freedBy_54 rfl hl (by decide) rfl (fun ls hl => ?_)
          refine lv_iinc (v := (x4 + 1)) (lv' := [(4, .int (x4 + 1)), (2, .long (x2 + 0)), (0, .ref (g 0)), (1, .int x1)]) hx hb dX8_freedBy_55 hl (k := 3) rfl rfl (by decide) rfl (fun ls hl => ?_)
          refine lv_goto (tgt := 5) hx hb dX8_freedBy_58 (by decide) ?_
          exact ih5 x1 (x2 + 0) (x4 + 1) he H locs hP hD hS ls (lv_sub hl [2, 3, 1, 0] rfl)
        · have he := ifn he c3
          refine lv_aload_n hx hb dX8_freedBy_23 rfl (lv_at hl 0 rfl) ?_
          refine va_get (D := D) (ci := 8) (v := .ref (g 6)) (C := RX8) (T := TX8) (N := 13) hx hb hts iX8 hown hK hP 0 rfl rfl 8 (by decide) w1 (fun _ h9 => h9) rfl dX8_freedBy_24 ?_
          refine lv_iload hx hb dX8_freedBy_27 (lv_at hl 3 rfl) ?_
          obtain ⟨h4, he⟩ := grd_i he
          refine va_iald hx hb hK hP 6 0 rfl rfl (ix_in h4) dX8_freedBy_29 ?_
          refine lv_iload_n hx hb dX8_freedBy_30 rfl (lv_at hl 1 rfl) ?_
          refine lv_iconst (v := (-1)) hx hb dX8_freedBy_31 (by decide) ?_
          refine lv_ixor hx hb dX8_freedBy_32 ?_
          refine lv_iand hx hb dX8_freedBy_33 ?_
          refine lv_if_ne (tgt := 52) hx hb dX8_freedBy_34 (by decide) (fun c5 => ?_) (fun c5 => ?_)
          · have he := ifn he c5
            refine lv_lconst (v := 0) hx hb dX8_freedBy_52 (by decide) ?_
            refine lv_ladd hx hb dX8_freedBy_53 ?_
            refine lv_lstore_n (lv' := [(2, .long (x2 + 0)), (0, .ref (g 0)), (1, .int x1), (4, .int x4)]) hx hb dX8_freedBy_54 rfl hl (by decide) rfl (fun ls hl => ?_)
            refine lv_iinc (v := (x4 + 1)) (lv' := [(4, .int (x4 + 1)), (2, .long (x2 + 0)), (0, .ref (g 0)), (1, .int x1)]) hx hb dX8_freedBy_55 hl (k := 3) rfl rfl (by decide) rfl (fun ls hl => ?_)
            refine lv_goto (tgt := 5) hx hb dX8_freedBy_58 (by decide) ?_
            exact ih5 x1 (x2 + 0) (x4 + 1) he H locs hP hD hS ls (lv_sub hl [2, 3, 1, 0] rfl)
          · have he := ifp he c5
            refine lv_aload_n hx hb dX8_freedBy_37 rfl (lv_at hl 0 rfl) ?_
            refine va_get (D := D) (ci := 8) (v := .ref (g 1)) (C := RX8) (T := TX8) (N := 13) hx hb hts iX8 hown hK hP 0 rfl rfl 1 (by decide) w2 (fun _ h9 => h9) rfl dX8_freedBy_38 ?_
            refine lv_sipush (v := 362) hx hb dX8_freedBy_41 (by decide) ?_
            refine lv_iload hx hb dX8_freedBy_44 (lv_at hl 3 rfl) ?_
            refine lv_iadd hx hb dX8_freedBy_46 ?_
            obtain ⟨h6, he⟩ := grd_i he
            refine va_iald hx hb hK hP 1 0 rfl rfl (ix_in h6) dX8_freedBy_47 ?_
            refine lv_i2l (v := (Int32.toInt64 (s (Int32.toNatClampNeg (362 + x4))))) hx hb dX8_freedBy_48 rfl ?_
            refine lv_goto (tgt := 53) hx hb dX8_freedBy_49 (by decide) ?_
            refine lv_ladd hx hb dX8_freedBy_53 ?_
            refine lv_lstore_n (lv' := [(2, .long (x2 + (Int32.toInt64 (s (Int32.toNatClampNeg (362 + x4)))))), (0, .ref (g 0)), (1, .int x1), (4, .int x4)]) hx hb dX8_freedBy_54 rfl hl (by decide) rfl (fun ls hl => ?_)
            refine lv_iinc (v := (x4 + 1)) (lv' := [(4, .int (x4 + 1)), (2, .long (x2 + (Int32.toInt64 (s (Int32.toNatClampNeg (362 + x4)))))), (0, .ref (g 0)), (1, .int x1)]) hx hb dX8_freedBy_55 hl (k := 3) rfl rfl (by decide) rfl (fun ls hl => ?_)
            refine lv_goto (tgt := 5) hx hb dX8_freedBy_58 (by decide) ?_
            exact ih5 x1 (x2 + (Int32.toInt64 (s (Int32.toNatClampNeg (362 + x4))))) (x4 + 1) he H locs hP hD hS ls (lv_sub hl [2, 3, 1, 0] rfl)
  have hS0 := hS
  have key : ∀ (H : Heap) (locs : List Loc), H = ss.heap → locs = [] → va_P D vwCl (wModel k g s im fr hd nw hh qs qz it th hm ow lo) H → va_S (va_A (wModel k g s im fr hd nw hh qs qz it th hm ow lo) ss.heap.size) ss.heap H locs → W pp l ee ({ frames := 0, cells := 0, slots := 0, locals := 0 } : Room) ss mm ([.ref (g 0), .int p1] : List Value).toArray bl me co H locs 0 0 (MQ bl (cQl D k (wModel k g s im fr hd nw hh qs qz it th hm ow lo) ss.heap.size r (wModel k g s im fr hd nw hh qs qz it th hm ow lo)) ([.ref (g 0), .int p1] : List Value).toArray ss 0 0 (va_A (wModel k g s im fr hd nw hh qs qz it th hm ow lo) ss.heap.size)) (F0 mm 0 ls []) := by
    intro H locs _ _ hP hS
    refine lv_lconst (v := 0) hx hb dX8_freedBy_0 (by decide) ?_
    refine lv_lstore_n (lv' := [(2, .long 0), (0, .ref (g 0)), (1, .int p1)]) hx hb dX8_freedBy_1 rfl hl (by decide) rfl (fun ls hl => ?_)
    refine lv_iconst (v := 0) hx hb dX8_freedBy_2 (by decide) ?_
    refine lv_istore (lv' := [(4, .int 0), (2, .long 0), (0, .ref (g 0)), (1, .int p1)]) hx hb dX8_freedBy_3 hl (by decide) rfl (fun ls hl => ?_)
    exact B5 600 p1 0 0 he H locs hP hD hS ls (lv_sub hl [2, 3, 1, 0] rfl)
  exact key ss.heap [] rfl rfl hP hS
theorem kX8_most : yX8_most.cls = RX8 ∧ yX8_most.cls ≠ "java/lang/invoke/MethodHandle" ∧ yX8_most.cls ≠ "java/lang/invoke/VarHandle" ∧ (parseMethodDescriptor yX8_most.desc).map (fun d => d.parameters.length) = some 2 := by decide +kernel
set_option maxRecDepth 100000 in
set_option maxHeartbeats 4000000 in
theorem mX8_most (l : Launch) (D : va_G) (k : Nat → ClassId) (g : Nat → Nat) {s : Nat → Int32} {im : Nat → Int32} {fr : Nat → Int32} {hd_0 : Nat → Int32} {nw_0 : Nat → Int32} {hh_0 : Nat → Int32} {qs : Nat → Int32} {qz : Nat → Int32} {it : Nat → Int64} {th : Int32} {hm : Int32} {ow_0 : Int32} {lo : Int32} {p1 : Int32} {p2 : Int32} {r : Int64} {hd' : Nat → Int32} {nw' : Nat → Int32} {hh' : Nat → Int32} {ow' : Int32} (he : xX8_most s hd_0 nw_0 hh_0 ow_0 p1 p2 = some (r, hd', nw', hh', ow')) : CtL l D k yX8_most wsX8_most ({ frames := 7, cells := 0, slots := 0, locals := 154 } : Room) [.ref (g 0), .int p1, .int p2] (wModel k g s im fr hd_0 nw_0 hh_0 qs qz it th hm ow_0 lo) r (wModel k g s im fr hd' nw' hh' qs qz it th hm ow' lo) := by
  intro sz9
  refine cSt (lv := [(0, .ref (g 0)), (1, .int p1), (2, .int p2)]) (own := RX8) (cc := cX8_most) (nL := 9) (ret := (some .long)) (by decide +kernel) rfl rfl (Nat.le_of_ble_eq_true rfl) rfl ?_
  intro pp ee ss mm bl me co hsz hC0 hP hD hS ls hl
  subst hsz
  obtain ⟨hx, hb, hr, hml, hown, hts, hK, hlk⟩ := hC0
  have hA : ∀ q, ss.heap.size ≤ q → va_A (wModel k g s im fr hd_0 nw_0 hh_0 qs qz it th hm ow_0 lo) ss.heap.size q := fun q h => Or.inr h
  have w1 := hts (.constantLong RX8 134 (-4611686018427387904)) (List.mem_of_getElem? (i := 1) rfl)
  have B38 : ∀ (n38 : Nat) (x2 : Int32) (x3 : Int32) (x4 : Int64) (x6 : Int32) (hd : Nat → Int32) (nw : Nat → Int32) (hh : Nat → Int32) (ow : Int32), xX8_most_38 s n38 x2 x3 x4 x6 hd nw hh ow = some (r, hd', nw', hh', ow') → ∀ (H : Heap) (locs : List Loc), va_P D vwCl (wModel k g s im fr hd nw hh qs qz it th hm ow lo) H → va_D (va_A (wModel k g s im fr hd_0 nw_0 hh_0 qs qz it th hm ow_0 lo) ss.heap.size) (wModel k g s im fr hd nw hh qs qz it th hm ow lo) → va_S (va_A (wModel k g s im fr hd_0 nw_0 hh_0 qs qz it th hm ow_0 lo) ss.heap.size) ss.heap H locs → ∀ ls : Array Slot, lv_has ls 9 [(0, .ref (g 0)), (2, .int x2), (3, .int x3), (4, .long x4), (6, .int x6)] → W pp l ee ({ frames := 7, cells := 0, slots := 0, locals := 154 } : Room) ss mm ([.ref (g 0), .int p1, .int p2] : List Value).toArray bl me co H locs 0 0 (MQ bl (cQl D k (wModel k g s im fr hd_0 nw_0 hh_0 qs qz it th hm ow_0 lo) ss.heap.size r (wModel k g s im fr hd' nw' hh' qs qz it th hm ow' lo)) ([.ref (g 0), .int p1, .int p2] : List Value).toArray ss 0 0 (va_A (wModel k g s im fr hd_0 nw_0 hh_0 qs qz it th hm ow_0 lo) ss.heap.size)) (F0 mm 38 ls []) := by
    intro n38
    induction n38 with
    | zero =>
      intro x2 x3 x4 x6 hd nw hh ow he
      exact absurd (show (none : Option (Int64 × (Nat → Int32) × (Nat → Int32) × (Nat → Int32) × Int32)) = some (r, hd', nw', hh', ow') from he) (by simp)
    | succ n38 ih38 =>
      intro x2 x3 x4 x6 hd nw hh ow he H locs hP hD hS ls hl
      refine lv_iload hx hb dX8_most_38 (lv_at hl 4 rfl) ?_
      refine lv_sipush (v := 256) hx hb dX8_most_40 (by decide) ?_
      refine lv_icmp_ge (tgt := 96) hx hb dX8_most_43 (by decide) (fun c1 => ?_) (fun c1 => ?_)
      · have he := ifp he c1
        refine lv_lload hx hb dX8_most_96 (lv_at hl 3 rfl) ?_
        obtain ⟨rfl, rfl, rfl, rfl, rfl⟩ := some5 he
        exact cRl hx hb hr hlk hK hP hD hS dX8_most_98
      · have he := ifn he c1
        refine lv_iload hx hb dX8_most_46 (lv_at hl 4 rfl) ?_
        refine lv_iload_n hx hb dX8_most_48 rfl (lv_at hl 2 rfl) ?_
        refine lv_iconst (v := (-1)) hx hb dX8_most_49 (by decide) ?_
        refine lv_ixor hx hb dX8_most_50 ?_
        refine lv_iand hx hb dX8_most_51 ?_
        refine lv_if_ne (tgt := 90) hx hb dX8_most_52 (by decide) (fun c2 => ?_) (fun c2 => ?_)
        · have he := ifn he c2
          refine lv_iinc (v := (x6 + 1)) (lv' := [(6, .int (x6 + 1)), (0, .ref (g 0)), (2, .int x2), (3, .int x3), (4, .long x4)]) hx hb dX8_most_90 hl (k := 4) rfl rfl (by decide) rfl (fun ls hl => ?_)
          refine lv_goto (tgt := 38) hx hb dX8_most_93 (by decide) ?_
          exact ih38 x2 x3 x4 (x6 + 1) hd nw hh ow he H locs hP hD hS ls (lv_sub hl [1, 2, 3, 4, 0] rfl)
        · have he := ifp he c2
          refine lv_aload_n hx hb dX8_most_55 rfl (lv_at hl 0 rfl) ?_
          refine lv_iload hx hb dX8_most_56 (lv_at hl 4 rfl) ?_
          obtain ⟨v3, h4, he⟩ := bn1_i he
          refine cVir (As := [.int x6]) (rest := []) ⟨hx, hb, hml, hown, hts⟩ hK hA hP hD hS (mX8_countOf l D k g (s := s) (im := im) (fr := fr) (hd := hd) (nw := nw) (hh := hh) (qs := qs) (qz := qz) (it := it) (th := th) (hm := hm) (ow := ow) (lo := lo) h4) (cwV 1 hts gX8_most_X8_countOf rfl rfl rfl kX8_countOf ⟨Nat.le_of_ble_eq_true rfl, Nat.le_of_ble_eq_true rfl⟩) [0, 1, 2, 3, 4, 5, 6, 7, 8, 9] rfl rfl 0 rfl rfl rfl hl.1 rfl (Nat.le_of_ble_eq_true rfl) ⟨Nat.le_refl 0, Nat.le_refl 0⟩ dX8_most_58 (fun H locs hP hD hS => ?_)
          refine lv_iload_n hx hb dX8_most_61 rfl (lv_at hl 1 rfl) ?_
          refine lv_icmp_gt (tgt := 90) hx hb dX8_most_62 (by decide) (fun c5 => ?_) (fun c5 => ?_)
          · have he := ifp he c5
            refine lv_iinc (v := (x6 + 1)) (lv' := [(6, .int (x6 + 1)), (0, .ref (g 0)), (2, .int x2), (3, .int x3), (4, .long x4)]) hx hb dX8_most_90 hl (k := 4) rfl rfl (by decide) rfl (fun ls hl => ?_)
            refine lv_goto (tgt := 38) hx hb dX8_most_93 (by decide) ?_
            exact ih38 x2 x3 x4 (x6 + 1) hd nw hh ow he H locs hP hD hS ls (lv_sub hl [1, 2, 3, 4, 0] rfl)
          · have he := ifn he c5
            refine lv_aload_n hx hb dX8_most_65 rfl (lv_at hl 0 rfl) ?_
            refine lv_iload hx hb dX8_most_66 (lv_at hl 4 rfl) ?_
            obtain ⟨v6, h7, he⟩ := bn1_i he
            refine cVlr (As := [.int x6]) (rest := []) ⟨hx, hb, hml, hown, hts⟩ hK hA hP hD hS (mX8_freedBy l D k g (s := s) (im := im) (fr := fr) (hd := hd) (nw := nw) (hh := hh) (qs := qs) (qz := qz) (it := it) (th := th) (hm := hm) (ow := ow) (lo := lo) h7) (cwV 1 hts gX8_most_X8_freedBy rfl rfl rfl kX8_freedBy ⟨Nat.le_of_ble_eq_true rfl, Nat.le_of_ble_eq_true rfl⟩) [0, 1, 2, 3, 4, 5, 6, 7, 8, 9] rfl rfl 0 rfl rfl rfl hl.1 rfl (Nat.le_of_ble_eq_true rfl) ⟨Nat.le_refl 0, Nat.le_refl 0⟩ dX8_most_68 (fun H locs hP hD hS => ?_)
            refine lv_lstore (lv' := [(7, .long v6), (0, .ref (g 0)), (2, .int x2), (3, .int x3), (4, .long x4), (6, .int x6)]) hx hb dX8_most_71 hl (by decide) rfl (fun ls hl => ?_)
            refine lv_lload hx hb dX8_most_73 (lv_at hl 0 rfl) ?_
            refine lv_lload hx hb dX8_most_75 (lv_at hl 4 rfl) ?_
            refine W.lcmp hx hb dX8_most_77 ?_
            refine lv_if_le (tgt := 86) hx hb dX8_most_78 (by decide) (fun c8 => ?_) (fun c8 => ?_)
            · have he := ifp he c8
              refine lv_lload hx hb dX8_most_86 (lv_at hl 4 rfl) ?_
              refine lv_lstore (lv' := [(4, .long x4), (7, .long v6), (0, .ref (g 0)), (2, .int x2), (3, .int x3), (6, .int x6)]) hx hb dX8_most_88 hl (by decide) rfl (fun ls hl => ?_)
              refine lv_iinc (v := (x6 + 1)) (lv' := [(6, .int (x6 + 1)), (4, .long x4), (7, .long v6), (0, .ref (g 0)), (2, .int x2), (3, .int x3)]) hx hb dX8_most_90 hl (k := 5) rfl rfl (by decide) rfl (fun ls hl => ?_)
              refine lv_goto (tgt := 38) hx hb dX8_most_93 (by decide) ?_
              exact ih38 x2 x3 x4 (x6 + 1) hd nw hh ow he H locs hP hD hS ls (lv_sub hl [3, 4, 5, 1, 0] rfl)
            · have he := ifn he c8
              refine lv_lload hx hb dX8_most_81 (lv_at hl 0 rfl) ?_
              refine lv_goto (tgt := 88) hx hb dX8_most_83 (by decide) ?_
              refine lv_lstore (lv' := [(4, .long v6), (7, .long v6), (0, .ref (g 0)), (2, .int x2), (3, .int x3), (6, .int x6)]) hx hb dX8_most_88 hl (by decide) rfl (fun ls hl => ?_)
              refine lv_iinc (v := (x6 + 1)) (lv' := [(6, .int (x6 + 1)), (4, .long v6), (7, .long v6), (0, .ref (g 0)), (2, .int x2), (3, .int x3)]) hx hb dX8_most_90 hl (k := 5) rfl rfl (by decide) rfl (fun ls hl => ?_)
              refine lv_goto (tgt := 38) hx hb dX8_most_93 (by decide) ?_
              exact ih38 x2 x3 v6 (x6 + 1) hd nw hh ow he H locs hP hD hS ls (lv_sub hl [3, 4, 5, 1, 0] rfl)
  have hS0 := hS
  have key : ∀ (H : Heap) (locs : List Loc), H = ss.heap → locs = [] → va_P D vwCl (wModel k g s im fr hd_0 nw_0 hh_0 qs qz it th hm ow_0 lo) H → va_S (va_A (wModel k g s im fr hd_0 nw_0 hh_0 qs qz it th hm ow_0 lo) ss.heap.size) ss.heap H locs → W pp l ee ({ frames := 7, cells := 0, slots := 0, locals := 154 } : Room) ss mm ([.ref (g 0), .int p1, .int p2] : List Value).toArray bl me co H locs 0 0 (MQ bl (cQl D k (wModel k g s im fr hd_0 nw_0 hh_0 qs qz it th hm ow_0 lo) ss.heap.size r (wModel k g s im fr hd' nw' hh' qs qz it th hm ow' lo)) ([.ref (g 0), .int p1, .int p2] : List Value).toArray ss 0 0 (va_A (wModel k g s im fr hd_0 nw_0 hh_0 qs qz it th hm ow_0 lo) ss.heap.size)) (F0 mm 0 ls []) := by
    intro H locs _ _ hP hS
    refine lv_iload_n hx hb dX8_most_0 rfl (lv_at hl 2 rfl) ?_
    refine lv_iconst (v := 0) hx hb dX8_most_1 (by decide) ?_
    refine lv_bipush (v := 8) hx hb dX8_most_2 (by decide) ?_
    obtain ⟨v1001, h1002, he⟩ := bn1_i he
    refine cSi (rest := []) ⟨hx, hb, hml, hown, hts⟩ hK hA hP hD hS (mX8_in l D k h1002) (cwS 3 hts gX8_most_X8_in rfl rfl rfl kX8_in ⟨Nat.le_of_ble_eq_true rfl, Nat.le_of_ble_eq_true rfl⟩) rfl hl.1 rfl (Nat.le_of_ble_eq_true rfl) ⟨Nat.le_refl 0, Nat.le_refl 0⟩ dX8_most_4 (fun H locs hP hD hS => ?_)
    refine lv_if_eq (tgt := 18) hx hb dX8_most_7 (by decide) (fun c1003 => ?_) (fun c1003 => ?_)
    · have he := ifp he c1003
      refine lv_ldc2 hx hb hown w1 dX8_most_18 ?_
      obtain ⟨rfl, rfl, rfl, rfl, rfl⟩ := some5 he
      exact cRl hx hb hr hlk hK hP hD hS dX8_most_21
    · have he := ifn he c1003
      refine lv_aload_n hx hb dX8_most_10 rfl (lv_at hl 0 rfl) ?_
      refine lv_iload_n hx hb dX8_most_11 rfl (lv_at hl 1 rfl) ?_
      obtain ⟨v1004, h1005, he⟩ := bn1_i he
      refine cVir (As := [.int p1]) (rest := []) ⟨hx, hb, hml, hown, hts⟩ hK hA hP hD hS (mX8_isFiles l D k g (s := s) (im := im) (fr := fr) (hd := hd_0) (nw := nw_0) (hh := hh_0) (qs := qs) (qz := qz) (it := it) (th := th) (hm := hm) (ow := ow_0) (lo := lo) h1005) (cwV 1 hts gX8_most_X8_isFiles rfl rfl rfl kX8_isFiles ⟨Nat.le_of_ble_eq_true rfl, Nat.le_of_ble_eq_true rfl⟩) [0, 1, 2, 3, 4, 5, 6, 7, 8, 9] rfl rfl 0 rfl rfl rfl hl.1 rfl (Nat.le_of_ble_eq_true rfl) ⟨Nat.le_refl 0, Nat.le_refl 0⟩ dX8_most_12 (fun H locs hP hD hS => ?_)
      refine lv_if_ne (tgt := 22) hx hb dX8_most_15 (by decide) (fun c1006 => ?_) (fun c1006 => ?_)
      · have he := ifn he c1006
        refine lv_aload_n hx hb dX8_most_22 rfl (lv_at hl 0 rfl) ?_
        refine lv_iload_n hx hb dX8_most_23 rfl (lv_at hl 1 rfl) ?_
        obtain ⟨nw1007, ow1008, h1009, he⟩ := bn2_i he
        refine cVv (wf := (wModel k g s im fr hd_0 nw1007 hh_0 qs qz it th hm ow1008 lo)) (As := [.int p1]) (rest := []) ⟨hx, hb, hml, hown, hts⟩ hK hA hP hD hS (mX8_looksForOwned l D k g (s := s) (im := im) (fr := fr) (hd := hd_0) (nw_0 := nw_0) (hh := hh_0) (qs := qs) (qz := qz) (it := it) (th := th) (hm := hm) (ow_0 := ow_0) (lo := lo) h1009) (cwV 1 hts gX8_most_X8_looksForOwned rfl rfl rfl kX8_looksForOwned ⟨Nat.le_of_ble_eq_true rfl, Nat.le_of_ble_eq_true rfl⟩) [0, 1, 2, 3, 4, 5, 6, 7, 8, 9] rfl rfl rfl [false, false, false, false, false, false, false, false, false, false] trivial 10 rfl (by decide +kernel) rfl 0 rfl rfl rfl hl.1 rfl (Nat.le_of_ble_eq_true rfl) ⟨Nat.le_refl 0, Nat.le_refl 0⟩ dX8_most_24 (fun H locs hP hD hS => ?_)
        refine lv_aload_n hx hb dX8_most_27 rfl (lv_at hl 0 rfl) ?_
        obtain ⟨v1010, hd1011, hh1012, h1013, he⟩ := bn3_i he
        refine cVi (wf := (wModel k g s im fr hd1011 nw1007 hh1012 qs qz it th hm ow1008 lo)) (As := []) (rest := []) ⟨hx, hb, hml, hown, hts⟩ hK hA hP hD hS (mX8_looksForHolders l D k g (s := s) (im := im) (fr := fr) (hd_0 := hd_0) (nw := nw1007) (hh_0 := hh_0) (qs := qs) (qz := qz) (it := it) (th := th) (hm := hm) (ow := ow1008) (lo := lo) h1013) (cwV 0 hts gX8_most_X8_looksForHolders rfl rfl rfl kX8_looksForHolders ⟨Nat.le_of_ble_eq_true rfl, Nat.le_of_ble_eq_true rfl⟩) [0, 1, 2, 3, 4, 5, 6, 7, 8, 9] rfl rfl rfl [false, false, false, false, false, false, false, false, false, false] trivial 10 rfl (by decide +kernel) rfl 0 rfl rfl rfl hl.1 rfl (Nat.le_of_ble_eq_true rfl) ⟨Nat.le_refl 0, Nat.le_refl 0⟩ dX8_most_28 (fun H locs hP hD hS => ?_)
        refine lv_istore_n (lv' := [(3, .int v1010), (0, .ref (g 0)), (1, .int p1), (2, .int p2)]) hx hb dX8_most_31 rfl hl (by decide) rfl (fun ls hl => ?_)
        refine lv_lconst (v := 0) hx hb dX8_most_32 (by decide) ?_
        refine lv_lstore (lv' := [(4, .long 0), (3, .int v1010), (0, .ref (g 0)), (1, .int p1), (2, .int p2)]) hx hb dX8_most_33 hl (by decide) rfl (fun ls hl => ?_)
        refine lv_iconst (v := 0) hx hb dX8_most_35 (by decide) ?_
        refine lv_istore (lv' := [(6, .int 0), (4, .long 0), (3, .int v1010), (0, .ref (g 0)), (1, .int p1), (2, .int p2)]) hx hb dX8_most_36 hl (by decide) rfl (fun ls hl => ?_)
        exact B38 600 p2 v1010 0 0 hd1011 nw1007 hh1012 ow1008 he H locs hP hD hS ls (lv_sub hl [3, 5, 2, 1, 0] rfl)
      · have he := ifp he c1006
        refine lv_ldc2 hx hb hown w1 dX8_most_18 ?_
        obtain ⟨rfl, rfl, rfl, rfl, rfl⟩ := some5 he
        exact cRl hx hb hr hlk hK hP hD hS dX8_most_21
  exact key ss.heap [] rfl rfl hP hS
theorem kX8_fewest : yX8_fewest.cls = RX8 ∧ yX8_fewest.cls ≠ "java/lang/invoke/MethodHandle" ∧ yX8_fewest.cls ≠ "java/lang/invoke/VarHandle" ∧ (parseMethodDescriptor yX8_fewest.desc).map (fun d => d.parameters.length) = some 2 := by decide +kernel
set_option maxRecDepth 100000 in
set_option maxHeartbeats 4000000 in
theorem mX8_fewest (l : Launch) (D : va_G) (k : Nat → ClassId) (g : Nat → Nat) {s : Nat → Int32} {im : Nat → Int32} {fr : Nat → Int32} {hd_0 : Nat → Int32} {nw_0 : Nat → Int32} {hh_0 : Nat → Int32} {qs : Nat → Int32} {qz : Nat → Int32} {it : Nat → Int64} {th : Int32} {hm : Int32} {ow_0 : Int32} {lo : Int32} {p1 : Int32} {p2 : Int64} {r : Int32} {hd' : Nat → Int32} {nw' : Nat → Int32} {hh' : Nat → Int32} {ow' : Int32} (he : xX8_fewest s hd_0 nw_0 hh_0 ow_0 p1 p2 = some (r, hd', nw', hh', ow')) : CtI l D k yX8_fewest wsX8_fewest ({ frames := 7, cells := 0, slots := 0, locals := 154 } : Room) [.ref (g 0), .int p1, .long p2] (wModel k g s im fr hd_0 nw_0 hh_0 qs qz it th hm ow_0 lo) r (wModel k g s im fr hd' nw' hh' qs qz it th hm ow' lo) := by
  intro sz9
  refine cSt (lv := [(0, .ref (g 0)), (1, .int p1), (2, .long p2)]) (own := RX8) (cc := cX8_fewest) (nL := 9) (ret := (some .int)) (by decide +kernel) rfl rfl (Nat.le_of_ble_eq_true rfl) rfl ?_
  intro pp ee ss mm bl me co hsz hC0 hP hD hS ls hl
  subst hsz
  obtain ⟨hx, hb, hr, hml, hown, hts, hK, hlk⟩ := hC0
  have hA : ∀ q, ss.heap.size ≤ q → va_A (wModel k g s im fr hd_0 nw_0 hh_0 qs qz it th hm ow_0 lo) ss.heap.size q := fun q h => Or.inr h
  have B41 : ∀ (n41 : Nat) (x2 : Int64) (x5 : Int32) (x6 : Int32) (x7 : Int32) (hd : Nat → Int32) (nw : Nat → Int32) (hh : Nat → Int32) (ow : Int32), xX8_fewest_41 s n41 x2 x5 x6 x7 hd nw hh ow = some (r, hd', nw', hh', ow') → ∀ (H : Heap) (locs : List Loc), va_P D vwCl (wModel k g s im fr hd nw hh qs qz it th hm ow lo) H → va_D (va_A (wModel k g s im fr hd_0 nw_0 hh_0 qs qz it th hm ow_0 lo) ss.heap.size) (wModel k g s im fr hd nw hh qs qz it th hm ow lo) → va_S (va_A (wModel k g s im fr hd_0 nw_0 hh_0 qs qz it th hm ow_0 lo) ss.heap.size) ss.heap H locs → ∀ ls : Array Slot, lv_has ls 9 [(0, .ref (g 0)), (2, .long x2), (5, .int x5), (6, .int x6), (7, .int x7)] → W pp l ee ({ frames := 7, cells := 0, slots := 0, locals := 154 } : Room) ss mm ([.ref (g 0), .int p1, .long p2] : List Value).toArray bl me co H locs 0 0 (MQ bl (cQi D k (wModel k g s im fr hd_0 nw_0 hh_0 qs qz it th hm ow_0 lo) ss.heap.size r (wModel k g s im fr hd' nw' hh' qs qz it th hm ow' lo)) ([.ref (g 0), .int p1, .long p2] : List Value).toArray ss 0 0 (va_A (wModel k g s im fr hd_0 nw_0 hh_0 qs qz it th hm ow_0 lo) ss.heap.size)) (F0 mm 41 ls []) := by
    intro n41
    induction n41 with
    | zero =>
      intro x2 x5 x6 x7 hd nw hh ow he
      exact absurd (show (none : Option (Int32 × (Nat → Int32) × (Nat → Int32) × (Nat → Int32) × Int32)) = some (r, hd', nw', hh', ow') from he) (by simp)
    | succ n41 ih41 =>
      have B71 : ∀ (x2 : Int64) (x5 : Int32) (x6 : Int32) (x7 : Int32) (y0 : Int32) (hd : Nat → Int32) (nw : Nat → Int32) (hh : Nat → Int32) (ow : Int32), xX8_fewest_71 s (xX8_fewest_41 s n41) x2 x5 x6 x7 y0 hd nw hh ow = some (r, hd', nw', hh', ow') → ∀ (H : Heap) (locs : List Loc), va_P D vwCl (wModel k g s im fr hd nw hh qs qz it th hm ow lo) H → va_D (va_A (wModel k g s im fr hd_0 nw_0 hh_0 qs qz it th hm ow_0 lo) ss.heap.size) (wModel k g s im fr hd nw hh qs qz it th hm ow lo) → va_S (va_A (wModel k g s im fr hd_0 nw_0 hh_0 qs qz it th hm ow_0 lo) ss.heap.size) ss.heap H locs → ∀ ls : Array Slot, lv_has ls 9 [(0, .ref (g 0)), (2, .long x2), (5, .int x5), (6, .int x6), (7, .int x7)] → W pp l ee ({ frames := 7, cells := 0, slots := 0, locals := 154 } : Room) ss mm ([.ref (g 0), .int p1, .long p2] : List Value).toArray bl me co H locs 0 0 (MQ bl (cQi D k (wModel k g s im fr hd_0 nw_0 hh_0 qs qz it th hm ow_0 lo) ss.heap.size r (wModel k g s im fr hd' nw' hh' qs qz it th hm ow' lo)) ([.ref (g 0), .int p1, .long p2] : List Value).toArray ss 0 0 (va_A (wModel k g s im fr hd_0 nw_0 hh_0 qs qz it th hm ow_0 lo) ss.heap.size)) (F0 mm 71 ls [.int y0]) := by
        intro x2 x5 x6 x7 y0 hd nw hh ow he H locs hP hD hS ls hl
        refine lv_istore (lv' := [(8, .int y0), (0, .ref (g 0)), (2, .long x2), (5, .int x5), (6, .int x6), (7, .int x7)]) hx hb dX8_fewest_71 hl (by decide) rfl (fun ls hl => ?_)
        refine lv_iload hx hb dX8_fewest_73 (lv_at hl 5 rfl) ?_
        refine lv_iload hx hb dX8_fewest_75 (lv_at hl 3 rfl) ?_
        refine lv_iconst (v := (-1)) hx hb dX8_fewest_77 (by decide) ?_
        refine lv_ixor hx hb dX8_fewest_78 ?_
        refine lv_iand hx hb dX8_fewest_79 ?_
        refine lv_if_ne (tgt := 108) hx hb dX8_fewest_80 (by decide) (fun c1 => ?_) (fun c1 => ?_)
        · have he := ifn he c1
          refine lv_iload hx hb dX8_fewest_108 (lv_at hl 4 rfl) ?_
          refine lv_istore (lv' := [(6, .int x6), (8, .int y0), (0, .ref (g 0)), (2, .long x2), (5, .int x5), (7, .int x7)]) hx hb dX8_fewest_110 hl (by decide) rfl (fun ls hl => ?_)
          refine lv_iinc (v := (x7 + 1)) (lv' := [(7, .int (x7 + 1)), (6, .int x6), (8, .int y0), (0, .ref (g 0)), (2, .long x2), (5, .int x5)]) hx hb dX8_fewest_112 hl (k := 5) rfl rfl (by decide) rfl (fun ls hl => ?_)
          refine lv_goto (tgt := 41) hx hb dX8_fewest_115 (by decide) ?_
          exact ih41 x2 x5 x6 (x7 + 1) hd nw hh ow he H locs hP hD hS ls (lv_sub hl [3, 4, 5, 1, 0] rfl)
        · have he := ifp he c1
          refine lv_iload hx hb dX8_fewest_83 (lv_at hl 0 rfl) ?_
          refine lv_if_eq (tgt := 108) hx hb dX8_fewest_85 (by decide) (fun c2 => ?_) (fun c2 => ?_)
          · have he := ifp he c2
            refine lv_iload hx hb dX8_fewest_108 (lv_at hl 4 rfl) ?_
            refine lv_istore (lv' := [(6, .int x6), (8, .int y0), (0, .ref (g 0)), (2, .long x2), (5, .int x5), (7, .int x7)]) hx hb dX8_fewest_110 hl (by decide) rfl (fun ls hl => ?_)
            refine lv_iinc (v := (x7 + 1)) (lv' := [(7, .int (x7 + 1)), (6, .int x6), (8, .int y0), (0, .ref (g 0)), (2, .long x2), (5, .int x5)]) hx hb dX8_fewest_112 hl (k := 5) rfl rfl (by decide) rfl (fun ls hl => ?_)
            refine lv_goto (tgt := 41) hx hb dX8_fewest_115 (by decide) ?_
            exact ih41 x2 x5 x6 (x7 + 1) hd nw hh ow he H locs hP hD hS ls (lv_sub hl [3, 4, 5, 1, 0] rfl)
          · have he := ifn he c2
            refine lv_aload_n hx hb dX8_fewest_88 rfl (lv_at hl 1 rfl) ?_
            refine lv_iload hx hb dX8_fewest_89 (lv_at hl 5 rfl) ?_
            obtain ⟨v3, h4, he⟩ := bn1_i he
            refine cVlr (As := [.int x7]) (rest := []) ⟨hx, hb, hml, hown, hts⟩ hK hA hP hD hS (mX8_freedBy l D k g (s := s) (im := im) (fr := fr) (hd := hd) (nw := nw) (hh := hh) (qs := qs) (qz := qz) (it := it) (th := th) (hm := hm) (ow := ow) (lo := lo) h4) (cwV 1 hts gX8_fewest_X8_freedBy rfl rfl rfl kX8_freedBy ⟨Nat.le_of_ble_eq_true rfl, Nat.le_of_ble_eq_true rfl⟩) [0, 1, 2, 3, 4, 5, 6, 7, 8, 9] rfl rfl 0 rfl rfl rfl hl.1 rfl (Nat.le_of_ble_eq_true rfl) ⟨Nat.le_refl 0, Nat.le_refl 0⟩ dX8_fewest_91 (fun H locs hP hD hS => ?_)
            refine lv_lload_n hx hb dX8_fewest_94 rfl (lv_at hl 2 rfl) ?_
            refine W.lcmp hx hb dX8_fewest_95 ?_
            refine lv_if_lt (tgt := 108) hx hb dX8_fewest_96 (by decide) (fun c5 => ?_) (fun c5 => ?_)
            · have he := ifp he c5
              refine lv_iload hx hb dX8_fewest_108 (lv_at hl 4 rfl) ?_
              refine lv_istore (lv' := [(6, .int x6), (8, .int y0), (0, .ref (g 0)), (2, .long x2), (5, .int x5), (7, .int x7)]) hx hb dX8_fewest_110 hl (by decide) rfl (fun ls hl => ?_)
              refine lv_iinc (v := (x7 + 1)) (lv' := [(7, .int (x7 + 1)), (6, .int x6), (8, .int y0), (0, .ref (g 0)), (2, .long x2), (5, .int x5)]) hx hb dX8_fewest_112 hl (k := 5) rfl rfl (by decide) rfl (fun ls hl => ?_)
              refine lv_goto (tgt := 41) hx hb dX8_fewest_115 (by decide) ?_
              exact ih41 x2 x5 x6 (x7 + 1) hd nw hh ow he H locs hP hD hS ls (lv_sub hl [3, 4, 5, 1, 0] rfl)
            · have he := ifn he c5
              refine lv_aload_n hx hb dX8_fewest_99 rfl (lv_at hl 1 rfl) ?_
              refine lv_iload hx hb dX8_fewest_100 (lv_at hl 5 rfl) ?_
              obtain ⟨v6, h7, he⟩ := bn1_i he
              refine cVir (As := [.int x7]) (rest := []) ⟨hx, hb, hml, hown, hts⟩ hK hA hP hD hS (mX8_countOf l D k g (s := s) (im := im) (fr := fr) (hd := hd) (nw := nw) (hh := hh) (qs := qs) (qz := qz) (it := it) (th := th) (hm := hm) (ow := ow) (lo := lo) h7) (cwV 1 hts gX8_fewest_X8_countOf rfl rfl rfl kX8_countOf ⟨Nat.le_of_ble_eq_true rfl, Nat.le_of_ble_eq_true rfl⟩) [0, 1, 2, 3, 4, 5, 6, 7, 8, 9] rfl rfl 0 rfl rfl rfl hl.1 rfl (Nat.le_of_ble_eq_true rfl) ⟨Nat.le_refl 0, Nat.le_refl 0⟩ dX8_fewest_102 (fun H locs hP hD hS => ?_)
              refine lv_goto (tgt := 110) hx hb dX8_fewest_105 (by decide) ?_
              refine lv_istore (lv' := [(6, .int v6), (8, .int y0), (0, .ref (g 0)), (2, .long x2), (5, .int x5), (7, .int x7)]) hx hb dX8_fewest_110 hl (by decide) rfl (fun ls hl => ?_)
              refine lv_iinc (v := (x7 + 1)) (lv' := [(7, .int (x7 + 1)), (6, .int v6), (8, .int y0), (0, .ref (g 0)), (2, .long x2), (5, .int x5)]) hx hb dX8_fewest_112 hl (k := 5) rfl rfl (by decide) rfl (fun ls hl => ?_)
              refine lv_goto (tgt := 41) hx hb dX8_fewest_115 (by decide) ?_
              exact ih41 x2 x5 v6 (x7 + 1) hd nw hh ow he H locs hP hD hS ls (lv_sub hl [3, 4, 5, 1, 0] rfl)
      intro x2 x5 x6 x7 hd nw hh ow he H locs hP hD hS ls hl
      refine lv_iload hx hb dX8_fewest_41 (lv_at hl 4 rfl) ?_
      refine lv_sipush (v := 256) hx hb dX8_fewest_43 (by decide) ?_
      refine lv_icmp_ge (tgt := 118) hx hb dX8_fewest_46 (by decide) (fun c8 => ?_) (fun c8 => ?_)
      · have he := ifp he c8
        refine lv_iload hx hb dX8_fewest_118 (lv_at hl 3 rfl) ?_
        obtain ⟨rfl, rfl, rfl, rfl, rfl⟩ := some5 he
        exact cRi hx hb hr hlk hK rfl hP hD hS dX8_fewest_120
      · have he := ifn he c8
        refine lv_iload hx hb dX8_fewest_49 (lv_at hl 3 rfl) ?_
        refine lv_iconst (v := (-1)) hx hb dX8_fewest_51 (by decide) ?_
        refine lv_icmp_eq (tgt := 66) hx hb dX8_fewest_52 (by decide) (fun c9 => ?_) (fun c9 => ?_)
        · have he := ifp he c9
          refine lv_iconst (v := 1) hx hb dX8_fewest_66 (by decide) ?_
          refine lv_goto (tgt := 71) hx hb dX8_fewest_67 (by decide) ?_
          exact B71 x2 x5 x6 x7 1 hd nw hh ow he H locs hP hD hS ls (lv_sub hl [0, 1, 2, 3, 4] rfl)
        · have he := ifn he c9
          refine lv_aload_n hx hb dX8_fewest_55 rfl (lv_at hl 0 rfl) ?_
          refine lv_iload hx hb dX8_fewest_56 (lv_at hl 4 rfl) ?_
          obtain ⟨v10, h11, he⟩ := bn1_i he
          refine cVir (As := [.int x7]) (rest := []) ⟨hx, hb, hml, hown, hts⟩ hK hA hP hD hS (mX8_countOf l D k g (s := s) (im := im) (fr := fr) (hd := hd) (nw := nw) (hh := hh) (qs := qs) (qz := qz) (it := it) (th := th) (hm := hm) (ow := ow) (lo := lo) h11) (cwV 1 hts gX8_fewest_X8_countOf rfl rfl rfl kX8_countOf ⟨Nat.le_of_ble_eq_true rfl, Nat.le_of_ble_eq_true rfl⟩) [0, 1, 2, 3, 4, 5, 6, 7, 8, 9] rfl rfl 0 rfl rfl rfl hl.1 rfl (Nat.le_of_ble_eq_true rfl) ⟨Nat.le_refl 0, Nat.le_refl 0⟩ dX8_fewest_58 (fun H locs hP hD hS => ?_)
          refine lv_iload hx hb dX8_fewest_61 (lv_at hl 3 rfl) ?_
          refine lv_icmp_ge (tgt := 70) hx hb dX8_fewest_63 (by decide) (fun c12 => ?_) (fun c12 => ?_)
          · have he := ifp he c12
            refine lv_iconst (v := 0) hx hb dX8_fewest_70 (by decide) ?_
            exact B71 x2 x5 x6 x7 0 hd nw hh ow he H locs hP hD hS ls (lv_sub hl [0, 1, 2, 3, 4] rfl)
          · have he := ifn he c12
            refine lv_iconst (v := 1) hx hb dX8_fewest_66 (by decide) ?_
            refine lv_goto (tgt := 71) hx hb dX8_fewest_67 (by decide) ?_
            exact B71 x2 x5 x6 x7 1 hd nw hh ow he H locs hP hD hS ls (lv_sub hl [0, 1, 2, 3, 4] rfl)
  have hS0 := hS
  have key : ∀ (H : Heap) (locs : List Loc), H = ss.heap → locs = [] → va_P D vwCl (wModel k g s im fr hd_0 nw_0 hh_0 qs qz it th hm ow_0 lo) H → va_S (va_A (wModel k g s im fr hd_0 nw_0 hh_0 qs qz it th hm ow_0 lo) ss.heap.size) ss.heap H locs → W pp l ee ({ frames := 7, cells := 0, slots := 0, locals := 154 } : Room) ss mm ([.ref (g 0), .int p1, .long p2] : List Value).toArray bl me co H locs 0 0 (MQ bl (cQi D k (wModel k g s im fr hd_0 nw_0 hh_0 qs qz it th hm ow_0 lo) ss.heap.size r (wModel k g s im fr hd' nw' hh' qs qz it th hm ow' lo)) ([.ref (g 0), .int p1, .long p2] : List Value).toArray ss 0 0 (va_A (wModel k g s im fr hd_0 nw_0 hh_0 qs qz it th hm ow_0 lo) ss.heap.size)) (F0 mm 0 ls []) := by
    intro H locs _ _ hP hS
    refine lv_aload_n hx hb dX8_fewest_0 rfl (lv_at hl 0 rfl) ?_
    refine lv_iload_n hx hb dX8_fewest_1 rfl (lv_at hl 1 rfl) ?_
    refine lv_iconst (v := 0) hx hb dX8_fewest_2 (by decide) ?_
    obtain ⟨v1001, h1002, he⟩ := bn1_i he
    refine cVir (As := [.int p1, .int 0]) (rest := []) ⟨hx, hb, hml, hown, hts⟩ hK hA hP hD hS (mX8_asked l D k g (s := s) (im := im) (fr := fr) (hd := hd_0) (nw := nw_0) (hh := hh_0) (qs := qs) (qz := qz) (it := it) (th := th) (hm := hm) (ow := ow_0) (lo := lo) h1002) (cwV 2 hts gX8_fewest_X8_asked rfl rfl rfl kX8_asked ⟨Nat.le_of_ble_eq_true rfl, Nat.le_of_ble_eq_true rfl⟩) [0, 1, 2, 3, 4, 5, 6, 7, 8, 9] rfl rfl 0 rfl rfl rfl hl.1 rfl (Nat.le_of_ble_eq_true rfl) ⟨Nat.le_refl 0, Nat.le_refl 0⟩ dX8_fewest_3 (fun H locs hP hD hS => ?_)
    refine lv_istore (lv' := [(4, .int v1001), (0, .ref (g 0)), (1, .int p1), (2, .long p2)]) hx hb dX8_fewest_6 hl (by decide) rfl (fun ls hl => ?_)
    refine lv_iload hx hb dX8_fewest_8 (lv_at hl 0 rfl) ?_
    refine lv_if_eq (tgt := 16) hx hb dX8_fewest_10 (by decide) (fun c1003 => ?_) (fun c1003 => ?_)
    · have he := ifp he c1003
      refine lv_lload_n hx hb dX8_fewest_16 rfl (lv_at hl 3 rfl) ?_
      refine lv_lconst (v := 0) hx hb dX8_fewest_17 (by decide) ?_
      refine W.lcmp hx hb dX8_fewest_18 ?_
      refine lv_if_gt (tgt := 24) hx hb dX8_fewest_19 (by decide) (fun c1004 => ?_) (fun c1004 => ?_)
      · have he := ifp he c1004
        refine lv_aload_n hx hb dX8_fewest_24 rfl (lv_at hl 1 rfl) ?_
        refine lv_iload_n hx hb dX8_fewest_25 rfl (lv_at hl 2 rfl) ?_
        obtain ⟨nw1005, ow1006, h1007, he⟩ := bn2_i he
        refine cVv (wf := (wModel k g s im fr hd_0 nw1005 hh_0 qs qz it th hm ow1006 lo)) (As := [.int p1]) (rest := []) ⟨hx, hb, hml, hown, hts⟩ hK hA hP hD hS (mX8_looksForOwned l D k g (s := s) (im := im) (fr := fr) (hd := hd_0) (nw_0 := nw_0) (hh := hh_0) (qs := qs) (qz := qz) (it := it) (th := th) (hm := hm) (ow_0 := ow_0) (lo := lo) h1007) (cwV 1 hts gX8_fewest_X8_looksForOwned rfl rfl rfl kX8_looksForOwned ⟨Nat.le_of_ble_eq_true rfl, Nat.le_of_ble_eq_true rfl⟩) [0, 1, 2, 3, 4, 5, 6, 7, 8, 9] rfl rfl rfl [false, false, false, false, false, false, false, false, false, false] trivial 10 rfl (by decide +kernel) rfl 0 rfl rfl rfl hl.1 rfl (Nat.le_of_ble_eq_true rfl) ⟨Nat.le_refl 0, Nat.le_refl 0⟩ dX8_fewest_26 (fun H locs hP hD hS => ?_)
        refine lv_aload_n hx hb dX8_fewest_29 rfl (lv_at hl 1 rfl) ?_
        obtain ⟨v1008, hd1009, hh1010, h1011, he⟩ := bn3_i he
        refine cVi (wf := (wModel k g s im fr hd1009 nw1005 hh1010 qs qz it th hm ow1006 lo)) (As := []) (rest := []) ⟨hx, hb, hml, hown, hts⟩ hK hA hP hD hS (mX8_looksForHolders l D k g (s := s) (im := im) (fr := fr) (hd_0 := hd_0) (nw := nw1005) (hh_0 := hh_0) (qs := qs) (qz := qz) (it := it) (th := th) (hm := hm) (ow := ow1006) (lo := lo) h1011) (cwV 0 hts gX8_fewest_X8_looksForHolders rfl rfl rfl kX8_looksForHolders ⟨Nat.le_of_ble_eq_true rfl, Nat.le_of_ble_eq_true rfl⟩) [0, 1, 2, 3, 4, 5, 6, 7, 8, 9] rfl rfl rfl [false, false, false, false, false, false, false, false, false, false] trivial 10 rfl (by decide +kernel) rfl 0 rfl rfl rfl hl.1 rfl (Nat.le_of_ble_eq_true rfl) ⟨Nat.le_refl 0, Nat.le_refl 0⟩ dX8_fewest_30 (fun H locs hP hD hS => ?_)
        refine lv_istore (lv' := [(5, .int v1008), (4, .int v1001), (0, .ref (g 0)), (1, .int p1), (2, .long p2)]) hx hb dX8_fewest_33 hl (by decide) rfl (fun ls hl => ?_)
        refine lv_iconst (v := (-1)) hx hb dX8_fewest_35 (by decide) ?_
        refine lv_istore (lv' := [(6, .int (-1)), (5, .int v1008), (4, .int v1001), (0, .ref (g 0)), (1, .int p1), (2, .long p2)]) hx hb dX8_fewest_36 hl (by decide) rfl (fun ls hl => ?_)
        refine lv_iconst (v := 0) hx hb dX8_fewest_38 (by decide) ?_
        refine lv_istore (lv' := [(7, .int 0), (6, .int (-1)), (5, .int v1008), (4, .int v1001), (0, .ref (g 0)), (1, .int p1), (2, .long p2)]) hx hb dX8_fewest_39 hl (by decide) rfl (fun ls hl => ?_)
        exact B41 600 p2 v1008 (-1) 0 hd1009 nw1005 hh1010 ow1006 he H locs hP hD hS ls (lv_sub hl [4, 6, 2, 1, 0] rfl)
      · have he := ifn he c1004
        refine lv_iconst (v := 0) hx hb dX8_fewest_22 (by decide) ?_
        obtain ⟨rfl, rfl, rfl, rfl, rfl⟩ := some5 he
        exact cRi hx hb hr hlk hK rfl hP hD hS dX8_fewest_23
    · have he := ifn he c1003
      refine lv_iload hx hb dX8_fewest_13 (lv_at hl 0 rfl) ?_
      obtain ⟨rfl, rfl, rfl, rfl, rfl⟩ := some5 he
      exact cRi hx hb hr hlk hK rfl hP hD hS dX8_fewest_15
  exact key ss.heap [] rfl rfl hP hS
theorem kX8_expire : yX8_expire.cls = RX8 ∧ yX8_expire.cls ≠ "java/lang/invoke/MethodHandle" ∧ yX8_expire.cls ≠ "java/lang/invoke/VarHandle" ∧ (parseMethodDescriptor yX8_expire.desc).map (fun d => d.parameters.length) = some 3 := by decide +kernel
set_option maxRecDepth 100000 in
set_option maxHeartbeats 4000000 in
theorem mX8_expire (l : Launch) (D : va_G) (k : Nat → ClassId) (g : Nat → Nat) {s_0 : Nat → Int32} {im : Nat → Int32} {fr : Nat → Int32} {hd_0 : Nat → Int32} {nw_0 : Nat → Int32} {hh : Nat → Int32} {qs : Nat → Int32} {qz : Nat → Int32} {it : Nat → Int64} {th : Int32} {hm : Int32} {ow_0 : Int32} {lo : Int32} {p1 : Int32} {p2 : Int32} {p3 : Int32} {r : Int32} {s' : Nat → Int32} {hd' : Nat → Int32} {nw' : Nat → Int32} {ow' : Int32} (he : xX8_expire s_0 hd_0 nw_0 ow_0 p1 p2 p3 = some (r, s', hd', nw', ow')) : CtI l D k yX8_expire wsX8_expire ({ frames := 7, cells := 0, slots := 0, locals := 152 } : Room) [.ref (g 0), .int p1, .int p2, .int p3] (wModel k g s_0 im fr hd_0 nw_0 hh qs qz it th hm ow_0 lo) r (wModel k g s' im fr hd' nw' hh qs qz it th hm ow' lo) := by
  intro sz9
  refine cSt (lv := [(0, .ref (g 0)), (1, .int p1), (2, .int p2), (3, .int p3)]) (own := RX8) (cc := cX8_expire) (nL := 8) (ret := (some .int)) (by decide +kernel) rfl rfl (Nat.le_of_ble_eq_true rfl) rfl ?_
  intro pp ee ss mm bl me co hsz hC0 hP hD hS ls hl
  subst hsz
  obtain ⟨hx, hb, hr, hml, hown, hts, hK, hlk⟩ := hC0
  have hA : ∀ q, ss.heap.size ≤ q → va_A (wModel k g s_0 im fr hd_0 nw_0 hh qs qz it th hm ow_0 lo) ss.heap.size q := fun q h => Or.inr h
  have iX8 : ∀ w ∈ wsX80, w ∈ wsX8_expire := fun _ h => List.mem_cons_of_mem _ (List.mem_append_right _ h)
  have w2 := hts (.fieldLink RX8 22 "DeadListPoolModel" "newest" "[I") (List.mem_of_getElem? (i := 2) rfl)
  have w3 := hts (.fieldLink RX8 7 "DeadListPoolModel" "s" "[I") (List.mem_of_getElem? (i := 3) rfl)
  have w1 := hts (.fieldLink RX8 139 "DeadListPoolModel" "owns" "I") (List.mem_of_getElem? (i := 1) rfl)
  have B55 : ∀ (n55 : Nat) (x2 : Int32) (x3 : Int32) (x5 : Int32) (x6 : Int32) (s : Nat → Int32) (hd : Nat → Int32) (nw : Nat → Int32) (ow : Int32), xX8_expire_55 n55 x2 x3 x5 x6 s hd nw ow = some (r, s', hd', nw', ow') → ∀ (H : Heap) (locs : List Loc), va_P D vwCl (wModel k g s im fr hd nw hh qs qz it th hm ow lo) H → va_D (va_A (wModel k g s_0 im fr hd_0 nw_0 hh qs qz it th hm ow_0 lo) ss.heap.size) (wModel k g s im fr hd nw hh qs qz it th hm ow lo) → va_S (va_A (wModel k g s_0 im fr hd_0 nw_0 hh qs qz it th hm ow_0 lo) ss.heap.size) ss.heap H locs → ∀ ls : Array Slot, lv_has ls 8 [(0, .ref (g 0)), (2, .int x2), (3, .int x3), (5, .int x5), (6, .int x6)] → W pp l ee ({ frames := 7, cells := 0, slots := 0, locals := 152 } : Room) ss mm ([.ref (g 0), .int p1, .int p2, .int p3] : List Value).toArray bl me co H locs 0 0 (MQ bl (cQi D k (wModel k g s_0 im fr hd_0 nw_0 hh qs qz it th hm ow_0 lo) ss.heap.size r (wModel k g s' im fr hd' nw' hh qs qz it th hm ow' lo)) ([.ref (g 0), .int p1, .int p2, .int p3] : List Value).toArray ss 0 0 (va_A (wModel k g s_0 im fr hd_0 nw_0 hh qs qz it th hm ow_0 lo) ss.heap.size)) (F0 mm 55 ls []) := by
    intro n55
    induction n55 with
    | zero =>
      intro x2 x3 x5 x6 s hd nw ow he
      exact absurd (show (none : Option (Int32 × (Nat → Int32) × (Nat → Int32) × (Nat → Int32) × Int32)) = some (r, s', hd', nw', ow') from he) (by simp)
    | succ n55 ih55 =>
      intro x2 x3 x5 x6 s hd nw ow he H locs hP hD hS ls hl
      refine lv_iload hx hb dX8_expire_55 (lv_at hl 4 rfl) ?_
      refine lv_iload_n hx hb dX8_expire_57 rfl (lv_at hl 1 rfl) ?_
      refine lv_icmp_lt (tgt := 110) hx hb dX8_expire_58 (by decide) (fun c1 => ?_) (fun c1 => ?_)
      · have he := ifp he c1
        refine lv_iload hx hb dX8_expire_110 (lv_at hl 3 rfl) ?_
        obtain ⟨rfl, rfl, rfl, rfl, rfl⟩ := some5 he
        exact cRi hx hb hr hlk hK rfl hP hD hS dX8_expire_112
      · have he := ifn he c1
        refine lv_aload_n hx hb dX8_expire_61 rfl (lv_at hl 0 rfl) ?_
        refine va_get (D := D) (ci := 8) (v := .ref (g 5)) (C := RX8) (T := TX8) (N := 13) hx hb hts iX8 hown hK hP 0 rfl rfl 6 (by decide) w2 (fun _ h9 => h9) rfl dX8_expire_62 ?_
        refine lv_iload hx hb dX8_expire_65 (lv_at hl 4 rfl) ?_
        obtain ⟨h2, he⟩ := grd_i he
        refine va_iald hx hb hK hP 5 0 rfl rfl (ix_in h2) dX8_expire_67 ?_
        refine lv_istore (lv' := [(7, .int (nw (Int32.toNatClampNeg x6))), (0, .ref (g 0)), (2, .int x2), (3, .int x3), (5, .int x5), (6, .int x6)]) hx hb dX8_expire_68 hl (by decide) rfl (fun ls hl => ?_)
        refine lv_aload_n hx hb dX8_expire_70 rfl (lv_at hl 1 rfl) ?_
        refine va_get (D := D) (ci := 8) (v := .ref (g 1)) (C := RX8) (T := TX8) (N := 13) hx hb hts iX8 hown hK hP 0 rfl rfl 1 (by decide) w3 (fun _ h9 => h9) rfl dX8_expire_71 ?_
        refine lv_bipush (v := 22) hx hb dX8_expire_74 (by decide) ?_
        refine lv_iload hx hb dX8_expire_76 (lv_at hl 0 rfl) ?_
        refine lv_iadd hx hb dX8_expire_78 ?_
        obtain ⟨h3, he⟩ := grd_i he
        refine va_iald hx hb hK hP 1 0 rfl rfl (ix_in h3) dX8_expire_79 ?_
        refine lv_iload_n hx hb dX8_expire_80 rfl (lv_at hl 3 rfl) ?_
        obtain ⟨h4, he⟩ := grd_i he
        refine lv_irem hx hb dX8_expire_81 (of_decide_eq_true h4) ?_
        refine lv_if_eq (tgt := 104) hx hb dX8_expire_82 (by decide) (fun c5 => ?_) (fun c5 => ?_)
        · have he := ifp he c5
          refine lv_iinc (v := (x6 + (-1))) (lv' := [(6, .int (x6 + (-1))), (7, .int (nw (Int32.toNatClampNeg x6))), (0, .ref (g 0)), (2, .int x2), (3, .int x3), (5, .int x5)]) hx hb dX8_expire_104 hl (k := 5) rfl rfl (by decide) rfl (fun ls hl => ?_)
          refine lv_goto (tgt := 55) hx hb dX8_expire_107 (by decide) ?_
          exact ih55 x2 x3 x5 (x6 + (-1)) s hd nw ow he H locs hP hD hS ls (lv_sub hl [2, 3, 4, 5, 0] rfl)
        · have he := ifn he c5
          refine lv_aload_n hx hb dX8_expire_85 rfl (lv_at hl 1 rfl) ?_
          refine lv_iload hx hb dX8_expire_86 (lv_at hl 0 rfl) ?_
          obtain ⟨v6, h7, he⟩ := bn1_i he
          refine cVir (As := [.int (nw (Int32.toNatClampNeg x6))]) (rest := []) ⟨hx, hb, hml, hown, hts⟩ hK hA hP hD hS (mX8_isLoose l D k g (s := s) (im := im) (fr := fr) (hd := hd) (nw := nw) (hh := hh) (qs := qs) (qz := qz) (it := it) (th := th) (hm := hm) (ow := ow) (lo := lo) h7) (cwV 1 hts gX8_expire_X8_isLoose rfl rfl rfl kX8_isLoose ⟨Nat.le_of_ble_eq_true rfl, Nat.le_of_ble_eq_true rfl⟩) [0, 1, 2, 3, 4, 5, 6, 7, 8, 9] rfl rfl 0 rfl rfl rfl hl.1 rfl (Nat.le_of_ble_eq_true rfl) ⟨Nat.le_refl 0, Nat.le_refl 0⟩ dX8_expire_88 (fun H locs hP hD hS => ?_)
          refine lv_if_eq (tgt := 104) hx hb dX8_expire_91 (by decide) (fun c8 => ?_) (fun c8 => ?_)
          · have he := ifp he c8
            refine lv_iinc (v := (x6 + (-1))) (lv' := [(6, .int (x6 + (-1))), (7, .int (nw (Int32.toNatClampNeg x6))), (0, .ref (g 0)), (2, .int x2), (3, .int x3), (5, .int x5)]) hx hb dX8_expire_104 hl (k := 5) rfl rfl (by decide) rfl (fun ls hl => ?_)
            refine lv_goto (tgt := 55) hx hb dX8_expire_107 (by decide) ?_
            exact ih55 x2 x3 x5 (x6 + (-1)) s hd nw ow he H locs hP hD hS ls (lv_sub hl [2, 3, 4, 5, 0] rfl)
          · have he := ifn he c8
            refine lv_aload_n hx hb dX8_expire_94 rfl (lv_at hl 1 rfl) ?_
            refine lv_iload hx hb dX8_expire_95 (lv_at hl 0 rfl) ?_
            obtain ⟨v9, s10, hd11, h12, he⟩ := bn3_i he
            refine cVi (wf := (wModel k g s10 im fr hd11 nw hh qs qz it th hm ow lo)) (As := [.int (nw (Int32.toNatClampNeg x6))]) (rest := []) ⟨hx, hb, hml, hown, hts⟩ hK hA hP hD hS (mX8_removed l D k g (s_0 := s) (im := im) (fr := fr) (hd_0 := hd) (nw := nw) (hh := hh) (qs := qs) (qz := qz) (it := it) (th := th) (hm := hm) (ow := ow) (lo := lo) h12) (cwV 1 hts gX8_expire_X8_removed rfl rfl rfl kX8_removed ⟨Nat.le_of_ble_eq_true rfl, Nat.le_of_ble_eq_true rfl⟩) [0, 1, 2, 3, 4, 5, 6, 7, 8, 9] rfl rfl rfl [false, false, false, false, false, false, false, false, false, false] trivial 10 rfl (by decide +kernel) rfl 0 rfl rfl rfl hl.1 rfl (Nat.le_of_ble_eq_true rfl) ⟨Nat.le_refl 0, Nat.le_refl 0⟩ dX8_expire_97 (fun H locs hP hD hS => ?_)
            refine lv_pop hx hb dX8_expire_100 rfl ?_
            refine lv_iinc (v := (x5 + 1)) (lv' := [(5, .int (x5 + 1)), (7, .int (nw (Int32.toNatClampNeg x6))), (0, .ref (g 0)), (2, .int x2), (3, .int x3), (6, .int x6)]) hx hb dX8_expire_101 hl (k := 4) rfl rfl (by decide) rfl (fun ls hl => ?_)
            refine lv_iinc (v := (x6 + (-1))) (lv' := [(6, .int (x6 + (-1))), (5, .int (x5 + 1)), (7, .int (nw (Int32.toNatClampNeg x6))), (0, .ref (g 0)), (2, .int x2), (3, .int x3)]) hx hb dX8_expire_104 hl (k := 5) rfl rfl (by decide) rfl (fun ls hl => ?_)
            refine lv_goto (tgt := 55) hx hb dX8_expire_107 (by decide) ?_
            exact ih55 x2 x3 (x5 + 1) (x6 + (-1)) s10 hd11 nw ow he H locs hP hD hS ls (lv_sub hl [3, 4, 5, 1, 0] rfl)
  have hS0 := hS
  have key : ∀ (H : Heap) (locs : List Loc), H = ss.heap → locs = [] → va_P D vwCl (wModel k g s_0 im fr hd_0 nw_0 hh qs qz it th hm ow_0 lo) H → va_S (va_A (wModel k g s_0 im fr hd_0 nw_0 hh qs qz it th hm ow_0 lo) ss.heap.size) ss.heap H locs → W pp l ee ({ frames := 7, cells := 0, slots := 0, locals := 152 } : Room) ss mm ([.ref (g 0), .int p1, .int p2, .int p3] : List Value).toArray bl me co H locs 0 0 (MQ bl (cQi D k (wModel k g s_0 im fr hd_0 nw_0 hh qs qz it th hm ow_0 lo) ss.heap.size r (wModel k g s' im fr hd' nw' hh qs qz it th hm ow' lo)) ([.ref (g 0), .int p1, .int p2, .int p3] : List Value).toArray ss 0 0 (va_A (wModel k g s_0 im fr hd_0 nw_0 hh qs qz it th hm ow_0 lo) ss.heap.size)) (F0 mm 0 ls []) := by
    intro H locs _ _ hP hS
    refine lv_iload_n hx hb dX8_expire_0 rfl (lv_at hl 2 rfl) ?_
    refine lv_iconst (v := 0) hx hb dX8_expire_1 (by decide) ?_
    refine lv_bipush (v := 20) hx hb dX8_expire_2 (by decide) ?_
    obtain ⟨v1001, h1002, he⟩ := bn1_i he
    refine cSi (rest := []) ⟨hx, hb, hml, hown, hts⟩ hK hA hP hD hS (mX8_in l D k h1002) (cwS 3 hts gX8_expire_X8_in rfl rfl rfl kX8_in ⟨Nat.le_of_ble_eq_true rfl, Nat.le_of_ble_eq_true rfl⟩) rfl hl.1 rfl (Nat.le_of_ble_eq_true rfl) ⟨Nat.le_refl 0, Nat.le_refl 0⟩ dX8_expire_4 (fun H locs hP hD hS => ?_)
    refine lv_if_eq (tgt := 20) hx hb dX8_expire_7 (by decide) (fun c1003 => ?_) (fun c1003 => ?_)
    · have he := ifp he c1003
      refine lv_bipush (v := (-2)) hx hb dX8_expire_20 (by decide) ?_
      obtain ⟨rfl, rfl, rfl, rfl, rfl⟩ := some5 he
      exact cRi hx hb hr hlk hK rfl hP hD hS dX8_expire_22
    · have he := ifn he c1003
      refine lv_iload_n hx hb dX8_expire_10 rfl (lv_at hl 3 rfl) ?_
      refine lv_iconst (v := 1) hx hb dX8_expire_11 (by decide) ?_
      refine lv_bipush (v := 100) hx hb dX8_expire_12 (by decide) ?_
      obtain ⟨v1004, h1005, he⟩ := bn1_i he
      refine cSi (rest := []) ⟨hx, hb, hml, hown, hts⟩ hK hA hP hD hS (mX8_in l D k h1005) (cwS 3 hts gX8_expire_X8_in rfl rfl rfl kX8_in ⟨Nat.le_of_ble_eq_true rfl, Nat.le_of_ble_eq_true rfl⟩) rfl hl.1 rfl (Nat.le_of_ble_eq_true rfl) ⟨Nat.le_refl 0, Nat.le_refl 0⟩ dX8_expire_14 (fun H locs hP hD hS => ?_)
      refine lv_if_ne (tgt := 23) hx hb dX8_expire_17 (by decide) (fun c1006 => ?_) (fun c1006 => ?_)
      · have he := ifn he c1006
        refine lv_aload_n hx hb dX8_expire_23 rfl (lv_at hl 0 rfl) ?_
        refine lv_iload_n hx hb dX8_expire_24 rfl (lv_at hl 1 rfl) ?_
        refine lv_iconst (v := 0) hx hb dX8_expire_25 (by decide) ?_
        obtain ⟨v1007, h1008, he⟩ := bn1_i he
        refine cVir (As := [.int p1, .int 0]) (rest := []) ⟨hx, hb, hml, hown, hts⟩ hK hA hP hD hS (mX8_asked l D k g (s := s_0) (im := im) (fr := fr) (hd := hd_0) (nw := nw_0) (hh := hh) (qs := qs) (qz := qz) (it := it) (th := th) (hm := hm) (ow := ow_0) (lo := lo) h1008) (cwV 2 hts gX8_expire_X8_asked rfl rfl rfl kX8_asked ⟨Nat.le_of_ble_eq_true rfl, Nat.le_of_ble_eq_true rfl⟩) [0, 1, 2, 3, 4, 5, 6, 7, 8, 9] rfl rfl 0 rfl rfl rfl hl.1 rfl (Nat.le_of_ble_eq_true rfl) ⟨Nat.le_refl 0, Nat.le_refl 0⟩ dX8_expire_26 (fun H locs hP hD hS => ?_)
        refine lv_istore (lv' := [(4, .int v1007), (0, .ref (g 0)), (1, .int p1), (2, .int p2), (3, .int p3)]) hx hb dX8_expire_29 hl (by decide) rfl (fun ls hl => ?_)
        refine lv_iload hx hb dX8_expire_31 (lv_at hl 0 rfl) ?_
        refine lv_if_eq (tgt := 39) hx hb dX8_expire_33 (by decide) (fun c1009 => ?_) (fun c1009 => ?_)
        · have he := ifp he c1009
          refine lv_aload_n hx hb dX8_expire_39 rfl (lv_at hl 1 rfl) ?_
          refine lv_iload_n hx hb dX8_expire_40 rfl (lv_at hl 2 rfl) ?_
          obtain ⟨nw1010, ow1011, h1012, he⟩ := bn2_i he
          refine cVv (wf := (wModel k g s_0 im fr hd_0 nw1010 hh qs qz it th hm ow1011 lo)) (As := [.int p1]) (rest := []) ⟨hx, hb, hml, hown, hts⟩ hK hA hP hD hS (mX8_looksForOwned l D k g (s := s_0) (im := im) (fr := fr) (hd := hd_0) (nw_0 := nw_0) (hh := hh) (qs := qs) (qz := qz) (it := it) (th := th) (hm := hm) (ow_0 := ow_0) (lo := lo) h1012) (cwV 1 hts gX8_expire_X8_looksForOwned rfl rfl rfl kX8_looksForOwned ⟨Nat.le_of_ble_eq_true rfl, Nat.le_of_ble_eq_true rfl⟩) [0, 1, 2, 3, 4, 5, 6, 7, 8, 9] rfl rfl rfl [false, false, false, false, false, false, false, false, false, false] trivial 10 rfl (by decide +kernel) rfl 0 rfl rfl rfl hl.1 rfl (Nat.le_of_ble_eq_true rfl) ⟨Nat.le_refl 0, Nat.le_refl 0⟩ dX8_expire_41 (fun H locs hP hD hS => ?_)
          refine lv_iconst (v := 0) hx hb dX8_expire_44 (by decide) ?_
          refine lv_istore (lv' := [(5, .int 0), (4, .int v1007), (0, .ref (g 0)), (1, .int p1), (2, .int p2), (3, .int p3)]) hx hb dX8_expire_45 hl (by decide) rfl (fun ls hl => ?_)
          refine lv_aload_n hx hb dX8_expire_47 rfl (lv_at hl 2 rfl) ?_
          refine va_get (D := D) (ci := 8) (v := .int ow1011) (C := RX8) (T := TX8) (N := 13) hx hb hts iX8 hown hK hP 0 rfl rfl 7 (by decide) w1 (fun _ h9 => h9) rfl dX8_expire_48 ?_
          refine lv_iconst (v := 1) hx hb dX8_expire_51 (by decide) ?_
          refine lv_isub hx hb dX8_expire_52 ?_
          refine lv_istore (lv' := [(6, .int (ow1011 - 1)), (5, .int 0), (4, .int v1007), (0, .ref (g 0)), (1, .int p1), (2, .int p2), (3, .int p3)]) hx hb dX8_expire_53 hl (by decide) rfl (fun ls hl => ?_)
          exact B55 600 p2 p3 0 (ow1011 - 1) s_0 hd_0 nw1010 ow1011 he H locs hP hD hS ls (lv_sub hl [3, 5, 6, 1, 0] rfl)
        · have he := ifn he c1009
          refine lv_iload hx hb dX8_expire_36 (lv_at hl 0 rfl) ?_
          obtain ⟨rfl, rfl, rfl, rfl, rfl⟩ := some5 he
          exact cRi hx hb hr hlk hK rfl hP hD hS dX8_expire_38
      · have he := ifp he c1006
        refine lv_bipush (v := (-2)) hx hb dX8_expire_20 (by decide) ?_
        obtain ⟨rfl, rfl, rfl, rfl, rfl⟩ := some5 he
        exact cRi hx hb hr hlk hK rfl hP hD hS dX8_expire_22
  exact key ss.heap [] rfl rfl hP hS
theorem kX8_isSheet : yX8_isSheet.cls = RX8 ∧ yX8_isSheet.cls ≠ "java/lang/invoke/MethodHandle" ∧ yX8_isSheet.cls ≠ "java/lang/invoke/VarHandle" ∧ (parseMethodDescriptor yX8_isSheet.desc).map (fun d => d.parameters.length) = some 1 := by decide +kernel
set_option maxRecDepth 100000 in
set_option maxHeartbeats 4000000 in
theorem mX8_isSheet (l : Launch) (D : va_G) (k : Nat → ClassId)   {p0 : Int32} {r : Int32}  (he : xX8_isSheet p0 = some r) : CtI l D k yX8_isSheet wsX8_isSheet ({ frames := 1, cells := 0, slots := 0, locals := 22 } : Room) [.int p0] [] r [] := by
  intro sz9
  refine cSt (lv := [(0, .int p0)]) (own := RX8) (cc := cX8_isSheet) (nL := 1) (ret := (some .boolean)) (by decide +kernel) rfl rfl (Nat.le_of_ble_eq_true rfl) rfl ?_
  intro pp ee ss mm bl me co hsz hC0 hP hD hS ls hl
  subst hsz
  obtain ⟨hx, hb, hr, hml, hown, hts, hK, hlk⟩ := hC0
  have hA : ∀ q, ss.heap.size ≤ q → va_A [] ss.heap.size q := fun q h => Or.inr h
  have hS0 := hS
  have key : ∀ (H : Heap) (locs : List Loc), H = ss.heap → locs = [] → va_P D vwCl [] H → va_S (va_A [] ss.heap.size) ss.heap H locs → W pp l ee ({ frames := 1, cells := 0, slots := 0, locals := 22 } : Room) ss mm ([.int p0] : List Value).toArray bl me co H locs 0 0 (MQ bl (cQi D k [] ss.heap.size r []) ([.int p0] : List Value).toArray ss 0 0 (va_A [] ss.heap.size)) (F0 mm 0 ls []) := by
    intro H locs _ _ hP hS
    refine lv_iload_n hx hb dX8_isSheet_0 rfl (lv_at hl 0 rfl) ?_
    refine lv_iconst (v := 0) hx hb dX8_isSheet_1 (by decide) ?_
    refine lv_iconst (v := 3) hx hb dX8_isSheet_2 (by decide) ?_
    obtain ⟨v1001, h1002, he⟩ := bn1_i he
    refine cSi (rest := []) ⟨hx, hb, hml, hown, hts⟩ hK hA hP hD hS (mX8_in l D k h1002) (cwS 3 hts gX8_isSheet_X8_in rfl rfl rfl kX8_in ⟨Nat.le_of_ble_eq_true rfl, Nat.le_of_ble_eq_true rfl⟩) rfl hl.1 rfl (Nat.le_of_ble_eq_true rfl) ⟨Nat.le_refl 0, Nat.le_refl 0⟩ dX8_isSheet_3 (fun H locs hP hD hS => ?_)
    obtain ⟨h1003, he⟩ := grd_i he
    obtain rfl := some1 he
    exact cRi hx hb hr hlk hK (isB_n h1003) hP hD hS dX8_isSheet_6
  exact key ss.heap [] rfl rfl hP hS
theorem kX8_makes : yX8_makes.cls = RX8 ∧ yX8_makes.cls ≠ "java/lang/invoke/MethodHandle" ∧ yX8_makes.cls ≠ "java/lang/invoke/VarHandle" ∧ (parseMethodDescriptor yX8_makes.desc).map (fun d => d.parameters.length) = some 3 := by decide +kernel
set_option maxRecDepth 100000 in
set_option maxHeartbeats 4000000 in
theorem mX8_makes (l : Launch) (D : va_G) (k : Nat → ClassId) (g : Nat → Nat) {s : Nat → Int32} {im : Nat → Int32} {fr : Nat → Int32} {hd : Nat → Int32} {nw : Nat → Int32} {hh : Nat → Int32} {qs_0 : Nat → Int32} {qz_0 : Nat → Int32} {it_0 : Nat → Int64} {th : Int32} {hm : Int32} {ow : Int32} {lo : Int32} {p1 : Int32} {p2 : Int32} {p3 : Int32} {qs' : Nat → Int32} {qz' : Nat → Int32} {it' : Nat → Int64} (he : xX8_makes qs_0 qz_0 it_0 p1 p2 p3 = some (qs', qz', it')) : CtV l D k yX8_makes wsX8_makes ({ frames := 0, cells := 0, slots := 0, locals := 0 } : Room) [.ref (g 0), .int p1, .int p2, .int p3] (wModel k g s im fr hd nw hh qs_0 qz_0 it_0 th hm ow lo) (wModel k g s im fr hd nw hh qs' qz' it' th hm ow lo) := by
  intro sz9
  refine cSt (lv := [(0, .ref (g 0)), (1, .int p1), (2, .int p2), (3, .int p3)]) (own := RX8) (cc := cX8_makes) (nL := 5) (ret := none) (by decide +kernel) rfl rfl (Nat.le_of_ble_eq_true rfl) rfl ?_
  intro pp ee ss mm bl me co hsz hC0 hP hD hS ls hl
  subst hsz
  obtain ⟨hx, hb, hr, hml, hown, hts, hK, hlk⟩ := hC0
  have hA : ∀ q, ss.heap.size ≤ q → va_A (wModel k g s im fr hd nw hh qs_0 qz_0 it_0 th hm ow lo) ss.heap.size q := fun q h => Or.inr h
  have iX8 : ∀ w ∈ wsX80, w ∈ wsX8_makes := fun _ h => List.mem_cons_of_mem _ (List.mem_append_right _ h)
  have w3 := hts (.fieldLink RX8 34 "DeadListPoolModel" "items" "[J") (List.mem_of_getElem? (i := 3) rfl)
  have w1 := hts (.fieldLink RX8 28 "DeadListPoolModel" "sorts" "[I") (List.mem_of_getElem? (i := 1) rfl)
  have w2 := hts (.fieldLink RX8 31 "DeadListPoolModel" "sizes" "[I") (List.mem_of_getElem? (i := 2) rfl)
  have B17 : ∀ (n17 : Nat) (x1 : Int32) (x4 : Int32) (qs : Nat → Int32) (qz : Nat → Int32) (it : Nat → Int64), xX8_makes_17 n17 x1 x4 qs qz it = some (qs', qz', it') → ∀ (H : Heap) (locs : List Loc), va_P D vwCl (wModel k g s im fr hd nw hh qs qz it th hm ow lo) H → va_D (va_A (wModel k g s im fr hd nw hh qs_0 qz_0 it_0 th hm ow lo) ss.heap.size) (wModel k g s im fr hd nw hh qs qz it th hm ow lo) → va_S (va_A (wModel k g s im fr hd nw hh qs_0 qz_0 it_0 th hm ow lo) ss.heap.size) ss.heap H locs → ∀ ls : Array Slot, lv_has ls 5 [(0, .ref (g 0)), (1, .int x1), (4, .int x4)] → W pp l ee ({ frames := 0, cells := 0, slots := 0, locals := 0 } : Room) ss mm ([.ref (g 0), .int p1, .int p2, .int p3] : List Value).toArray bl me co H locs 0 0 (MQ bl (cQv D k (wModel k g s im fr hd nw hh qs_0 qz_0 it_0 th hm ow lo) ss.heap.size (wModel k g s im fr hd nw hh qs' qz' it' th hm ow lo)) ([.ref (g 0), .int p1, .int p2, .int p3] : List Value).toArray ss 0 0 (va_A (wModel k g s im fr hd nw hh qs_0 qz_0 it_0 th hm ow lo) ss.heap.size)) (F0 mm 17 ls []) := by
    intro n17
    induction n17 with
    | zero =>
      intro x1 x4 qs qz it he
      exact absurd (show (none : Option ((Nat → Int32) × (Nat → Int32) × (Nat → Int64))) = some (qs', qz', it') from he) (by simp)
    | succ n17 ih17 =>
      intro x1 x4 qs qz it he H locs hP hD hS ls hl
      refine lv_iload hx hb dX8_makes_17 (lv_at hl 2 rfl) ?_
      refine lv_bipush (v := 40) hx hb dX8_makes_19 (by decide) ?_
      refine lv_icmp_ge (tgt := 43) hx hb dX8_makes_21 (by decide) (fun c1 => ?_) (fun c1 => ?_)
      · have he := ifp he c1
        obtain ⟨rfl, rfl, rfl⟩ := some3 he
        exact cRv hx hb hr hlk hK hP hD hS dX8_makes_43
      · have he := ifn he c1
        refine lv_aload_n hx hb dX8_makes_24 rfl (lv_at hl 0 rfl) ?_
        refine va_get (D := D) (ci := 8) (v := .ref (g 9)) (C := RX8) (T := TX8) (N := 13) hx hb hts iX8 hown hK hP 0 rfl rfl 11 (by decide) w3 (fun _ h9 => h9) rfl dX8_makes_25 ?_
        refine lv_bipush (v := 40) hx hb dX8_makes_28 (by decide) ?_
        refine lv_iload_n hx hb dX8_makes_30 rfl (lv_at hl 1 rfl) ?_
        refine lv_imul hx hb dX8_makes_31 ?_
        refine lv_iload hx hb dX8_makes_32 (lv_at hl 2 rfl) ?_
        refine lv_iadd hx hb dX8_makes_34 ?_
        refine lv_lconst (v := 0) hx hb dX8_makes_35 (by decide) ?_
        obtain ⟨h2, he⟩ := grd_i he
        obtain ⟨it3, e4, he⟩ := lt_i he
        refine va_last hx hb hK hP hD hS 9 1 rfl rfl (ix_in h2) dX8_makes_36 (fun H locs hP hD hS => ?_)
        have hP : va_P D vwCl (wModel k g s im fr hd nw hh qs qz it3 th hm ow lo) H := by rw [e4]; exact hP
        have hD : va_D _ (wModel k g s im fr hd nw hh qs qz it3 th hm ow lo) := va_D_adr (by rw [e4]; rfl) hD
        refine lv_iinc (v := (x4 + 1)) (lv' := [(4, .int (x4 + 1)), (0, .ref (g 0)), (1, .int x1)]) hx hb dX8_makes_37 hl (k := 2) rfl rfl (by decide) rfl (fun ls hl => ?_)
        refine lv_goto (tgt := 17) hx hb dX8_makes_40 (by decide) ?_
        exact ih17 x1 (x4 + 1) qs qz it3 he H locs hP hD hS ls (lv_sub hl [1, 2, 0] rfl)
  have hS0 := hS
  have key : ∀ (H : Heap) (locs : List Loc), H = ss.heap → locs = [] → va_P D vwCl (wModel k g s im fr hd nw hh qs_0 qz_0 it_0 th hm ow lo) H → va_S (va_A (wModel k g s im fr hd nw hh qs_0 qz_0 it_0 th hm ow lo) ss.heap.size) ss.heap H locs → W pp l ee ({ frames := 0, cells := 0, slots := 0, locals := 0 } : Room) ss mm ([.ref (g 0), .int p1, .int p2, .int p3] : List Value).toArray bl me co H locs 0 0 (MQ bl (cQv D k (wModel k g s im fr hd nw hh qs_0 qz_0 it_0 th hm ow lo) ss.heap.size (wModel k g s im fr hd nw hh qs' qz' it' th hm ow lo)) ([.ref (g 0), .int p1, .int p2, .int p3] : List Value).toArray ss 0 0 (va_A (wModel k g s im fr hd nw hh qs_0 qz_0 it_0 th hm ow lo) ss.heap.size)) (F0 mm 0 ls []) := by
    intro H locs _ _ hP hS
    refine lv_aload_n hx hb dX8_makes_0 rfl (lv_at hl 0 rfl) ?_
    refine va_get (D := D) (ci := 8) (v := .ref (g 7)) (C := RX8) (T := TX8) (N := 13) hx hb hts iX8 hown hK hP 0 rfl rfl 9 (by decide) w1 (fun _ h9 => h9) rfl dX8_makes_1 ?_
    refine lv_iload_n hx hb dX8_makes_4 rfl (lv_at hl 1 rfl) ?_
    refine lv_iload_n hx hb dX8_makes_5 rfl (lv_at hl 2 rfl) ?_
    obtain ⟨h1001, he⟩ := grd_i he
    obtain ⟨qs1002, e1003, he⟩ := lt_i he
    refine va_iast hx hb hK hP hD hS 7 0 rfl rfl (ix_in h1001) dX8_makes_6 (fun H locs hP hD hS => ?_)
    have hP : va_P D vwCl (wModel k g s im fr hd nw hh qs1002 qz_0 it_0 th hm ow lo) H := by rw [e1003]; exact hP
    have hD : va_D _ (wModel k g s im fr hd nw hh qs1002 qz_0 it_0 th hm ow lo) := va_D_adr (by rw [e1003]; rfl) hD
    refine lv_aload_n hx hb dX8_makes_7 rfl (lv_at hl 0 rfl) ?_
    refine va_get (D := D) (ci := 8) (v := .ref (g 8)) (C := RX8) (T := TX8) (N := 13) hx hb hts iX8 hown hK hP 0 rfl rfl 10 (by decide) w2 (fun _ h9 => h9) rfl dX8_makes_8 ?_
    refine lv_iload_n hx hb dX8_makes_11 rfl (lv_at hl 1 rfl) ?_
    refine lv_iload_n hx hb dX8_makes_12 rfl (lv_at hl 3 rfl) ?_
    obtain ⟨h1004, he⟩ := grd_i he
    obtain ⟨qz1005, e1006, he⟩ := lt_i he
    refine va_iast hx hb hK hP hD hS 8 0 rfl rfl (ix_in h1004) dX8_makes_13 (fun H locs hP hD hS => ?_)
    have hP : va_P D vwCl (wModel k g s im fr hd nw hh qs1002 qz1005 it_0 th hm ow lo) H := by rw [e1006]; exact hP
    have hD : va_D _ (wModel k g s im fr hd nw hh qs1002 qz1005 it_0 th hm ow lo) := va_D_adr (by rw [e1006]; rfl) hD
    refine lv_iconst (v := 0) hx hb dX8_makes_14 (by decide) ?_
    refine lv_istore (lv' := [(4, .int 0), (0, .ref (g 0)), (1, .int p1), (2, .int p2), (3, .int p3)]) hx hb dX8_makes_15 hl (by decide) rfl (fun ls hl => ?_)
    exact B17 600 p1 0 qs1002 qz1005 it_0 he H locs hP hD hS ls (lv_sub hl [1, 2, 0] rfl)
  exact key ss.heap [] rfl rfl hP hS
theorem kX8_sheet : yX8_sheet.cls = RX8 ∧ yX8_sheet.cls ≠ "java/lang/invoke/MethodHandle" ∧ yX8_sheet.cls ≠ "java/lang/invoke/VarHandle" ∧ (parseMethodDescriptor yX8_sheet.desc).map (fun d => d.parameters.length) = some 3 := by decide +kernel
set_option maxRecDepth 100000 in
set_option maxHeartbeats 4000000 in
theorem mX8_sheet (l : Launch) (D : va_G) (k : Nat → ClassId) (g : Nat → Nat) {s : Nat → Int32} {im : Nat → Int32} {fr : Nat → Int32} {hd : Nat → Int32} {nw : Nat → Int32} {hh : Nat → Int32} {qs_0 : Nat → Int32} {qz_0 : Nat → Int32} {it_0 : Nat → Int64} {th : Int32} {hm : Int32} {ow : Int32} {lo : Int32} {p1 : Int32} {p2 : Int32} {p3 : Int32} {r : Int32} {qs' : Nat → Int32} {qz' : Nat → Int32} {it' : Nat → Int64} (he : xX8_sheet qs_0 qz_0 it_0 p1 p2 p3 = some (r, qs', qz', it')) : CtI l D k yX8_sheet wsX8_sheet ({ frames := 2, cells := 0, slots := 0, locals := 42 } : Room) [.ref (g 0), .int p1, .int p2, .int p3] (wModel k g s im fr hd nw hh qs_0 qz_0 it_0 th hm ow lo) r (wModel k g s im fr hd nw hh qs' qz' it' th hm ow lo) := by
  intro sz9
  refine cSt (lv := [(0, .ref (g 0)), (1, .int p1), (2, .int p2), (3, .int p3)]) (own := RX8) (cc := cX8_sheet) (nL := 4) (ret := (some .int)) (by decide +kernel) rfl rfl (Nat.le_of_ble_eq_true rfl) rfl ?_
  intro pp ee ss mm bl me co hsz hC0 hP hD hS ls hl
  subst hsz
  obtain ⟨hx, hb, hr, hml, hown, hts, hK, hlk⟩ := hC0
  have hA : ∀ q, ss.heap.size ≤ q → va_A (wModel k g s im fr hd nw hh qs_0 qz_0 it_0 th hm ow lo) ss.heap.size q := fun q h => Or.inr h
  have B55 : ∀ (y1 : Int32) (y2 : Int32) (y3 : Int32) (qs : Nat → Int32) (qz : Nat → Int32) (it : Nat → Int64), xX8_sheet_55 y1 y2 y3 qs qz it = some (r, qs', qz', it') → ∀ (H : Heap) (locs : List Loc), va_P D vwCl (wModel k g s im fr hd nw hh qs qz it th hm ow lo) H → va_D (va_A (wModel k g s im fr hd nw hh qs_0 qz_0 it_0 th hm ow lo) ss.heap.size) (wModel k g s im fr hd nw hh qs qz it th hm ow lo) → va_S (va_A (wModel k g s im fr hd nw hh qs_0 qz_0 it_0 th hm ow lo) ss.heap.size) ss.heap H locs → ∀ ls : Array Slot, lv_has ls 4 [] → W pp l ee ({ frames := 2, cells := 0, slots := 0, locals := 42 } : Room) ss mm ([.ref (g 0), .int p1, .int p2, .int p3] : List Value).toArray bl me co H locs 0 0 (MQ bl (cQi D k (wModel k g s im fr hd nw hh qs_0 qz_0 it_0 th hm ow lo) ss.heap.size r (wModel k g s im fr hd nw hh qs' qz' it' th hm ow lo)) ([.ref (g 0), .int p1, .int p2, .int p3] : List Value).toArray ss 0 0 (va_A (wModel k g s im fr hd nw hh qs_0 qz_0 it_0 th hm ow lo) ss.heap.size)) (F0 mm 55 ls [.int y3, .int y2, .int y1, .ref (g 0)]) := by
    intro y1 y2 y3 qs qz it he H locs hP hD hS ls hl
    obtain ⟨qs1, qz2, it3, h4, he⟩ := bn3_i he
    refine cVv (wf := (wModel k g s im fr hd nw hh qs1 qz2 it3 th hm ow lo)) (As := [.int y1, .int y2, .int y3]) (rest := []) ⟨hx, hb, hml, hown, hts⟩ hK hA hP hD hS (mX8_makes l D k g (s := s) (im := im) (fr := fr) (hd := hd) (nw := nw) (hh := hh) (qs_0 := qs) (qz_0 := qz) (it_0 := it) (th := th) (hm := hm) (ow := ow) (lo := lo) h4) (cwV 3 hts gX8_sheet_X8_makes rfl rfl rfl kX8_makes ⟨Nat.le_of_ble_eq_true rfl, Nat.le_of_ble_eq_true rfl⟩) [0, 1, 2, 3, 4, 5, 6, 7, 8, 9] rfl rfl rfl [false, false, false, false, false, false, false, false, false, false] trivial 10 rfl (by decide +kernel) rfl 0 rfl rfl rfl hl.1 rfl (Nat.le_of_ble_eq_true rfl) ⟨Nat.le_refl 0, Nat.le_refl 0⟩ dX8_sheet_55 (fun H locs hP hD hS => ?_)
    refine lv_iconst (v := 1) hx hb dX8_sheet_58 (by decide) ?_
    obtain ⟨rfl, rfl, rfl, rfl⟩ := some4 he
    exact cRi hx hb hr hlk hK rfl hP hD hS dX8_sheet_59
  have B42 : ∀ (x1 : Int32) (x2 : Int32) (x3 : Int32) (qs : Nat → Int32) (qz : Nat → Int32) (it : Nat → Int64), xX8_sheet_42 x1 x2 x3 qs qz it = some (r, qs', qz', it') → ∀ (H : Heap) (locs : List Loc), va_P D vwCl (wModel k g s im fr hd nw hh qs qz it th hm ow lo) H → va_D (va_A (wModel k g s im fr hd nw hh qs_0 qz_0 it_0 th hm ow lo) ss.heap.size) (wModel k g s im fr hd nw hh qs qz it th hm ow lo) → va_S (va_A (wModel k g s im fr hd nw hh qs_0 qz_0 it_0 th hm ow lo) ss.heap.size) ss.heap H locs → ∀ ls : Array Slot, lv_has ls 4 [(0, .ref (g 0)), (1, .int x1), (2, .int x2), (3, .int x3)] → W pp l ee ({ frames := 2, cells := 0, slots := 0, locals := 42 } : Room) ss mm ([.ref (g 0), .int p1, .int p2, .int p3] : List Value).toArray bl me co H locs 0 0 (MQ bl (cQi D k (wModel k g s im fr hd nw hh qs_0 qz_0 it_0 th hm ow lo) ss.heap.size r (wModel k g s im fr hd nw hh qs' qz' it' th hm ow lo)) ([.ref (g 0), .int p1, .int p2, .int p3] : List Value).toArray ss 0 0 (va_A (wModel k g s im fr hd nw hh qs_0 qz_0 it_0 th hm ow lo) ss.heap.size)) (F0 mm 42 ls []) := by
    intro x1 x2 x3 qs qz it he H locs hP hD hS ls hl
    refine lv_aload_n hx hb dX8_sheet_42 rfl (lv_at hl 0 rfl) ?_
    refine lv_iload_n hx hb dX8_sheet_43 rfl (lv_at hl 1 rfl) ?_
    refine lv_iload_n hx hb dX8_sheet_44 rfl (lv_at hl 2 rfl) ?_
    refine lv_iload_n hx hb dX8_sheet_45 rfl (lv_at hl 2 rfl) ?_
    refine lv_iconst (v := (-1)) hx hb dX8_sheet_46 (by decide) ?_
    refine lv_icmp_ne (tgt := 54) hx hb dX8_sheet_47 (by decide) (fun c5 => ?_) (fun c5 => ?_)
    · have he := ifn he c5
      refine lv_iload_n hx hb dX8_sheet_54 rfl (lv_at hl 3 rfl) ?_
      exact B55 x1 x2 x3 qs qz it he H locs hP hD hS ls (lv_sub hl [] rfl)
    · have he := ifp he c5
      refine lv_iconst (v := 0) hx hb dX8_sheet_50 (by decide) ?_
      refine lv_goto (tgt := 55) hx hb dX8_sheet_51 (by decide) ?_
      exact B55 x1 x2 0 qs qz it he H locs hP hD hS ls (lv_sub hl [] rfl)
  have B30 : ∀ (x1 : Int32) (x2 : Int32) (x3 : Int32) (qs : Nat → Int32) (qz : Nat → Int32) (it : Nat → Int64), xX8_sheet_30 x1 x2 x3 qs qz it = some (r, qs', qz', it') → ∀ (H : Heap) (locs : List Loc), va_P D vwCl (wModel k g s im fr hd nw hh qs qz it th hm ow lo) H → va_D (va_A (wModel k g s im fr hd nw hh qs_0 qz_0 it_0 th hm ow lo) ss.heap.size) (wModel k g s im fr hd nw hh qs qz it th hm ow lo) → va_S (va_A (wModel k g s im fr hd nw hh qs_0 qz_0 it_0 th hm ow lo) ss.heap.size) ss.heap H locs → ∀ ls : Array Slot, lv_has ls 4 [(0, .ref (g 0)), (1, .int x1), (2, .int x2), (3, .int x3)] → W pp l ee ({ frames := 2, cells := 0, slots := 0, locals := 42 } : Room) ss mm ([.ref (g 0), .int p1, .int p2, .int p3] : List Value).toArray bl me co H locs 0 0 (MQ bl (cQi D k (wModel k g s im fr hd nw hh qs_0 qz_0 it_0 th hm ow lo) ss.heap.size r (wModel k g s im fr hd nw hh qs' qz' it' th hm ow lo)) ([.ref (g 0), .int p1, .int p2, .int p3] : List Value).toArray ss 0 0 (va_A (wModel k g s im fr hd nw hh qs_0 qz_0 it_0 th hm ow lo) ss.heap.size)) (F0 mm 30 ls []) := by
    intro x1 x2 x3 qs qz it he H locs hP hD hS ls hl
    refine lv_iload_n hx hb dX8_sheet_30 rfl (lv_at hl 2 rfl) ?_
    refine lv_iconst (v := (-1)) hx hb dX8_sheet_31 (by decide) ?_
    refine lv_icmp_eq (tgt := 42) hx hb dX8_sheet_32 (by decide) (fun c6 => ?_) (fun c6 => ?_)
    · have he := ifp he c6
      exact B42 x1 x2 x3 qs qz it he H locs hP hD hS ls (lv_sub hl [0, 1, 2, 3] rfl)
    · have he := ifn he c6
      refine lv_iload_n hx hb dX8_sheet_35 rfl (lv_at hl 3 rfl) ?_
      refine lv_if_ge (tgt := 42) hx hb dX8_sheet_36 (by decide) (fun c7 => ?_) (fun c7 => ?_)
      · have he := ifp he c7
        exact B42 x1 x2 x3 qs qz it he H locs hP hD hS ls (lv_sub hl [0, 1, 2, 3] rfl)
      · have he := ifn he c7
        refine lv_bipush (v := (-14)) hx hb dX8_sheet_39 (by decide) ?_
        obtain ⟨rfl, rfl, rfl, rfl⟩ := some4 he
        exact cRi hx hb hr hlk hK rfl hP hD hS dX8_sheet_41
  have hS0 := hS
  have key : ∀ (H : Heap) (locs : List Loc), H = ss.heap → locs = [] → va_P D vwCl (wModel k g s im fr hd nw hh qs_0 qz_0 it_0 th hm ow lo) H → va_S (va_A (wModel k g s im fr hd nw hh qs_0 qz_0 it_0 th hm ow lo) ss.heap.size) ss.heap H locs → W pp l ee ({ frames := 2, cells := 0, slots := 0, locals := 42 } : Room) ss mm ([.ref (g 0), .int p1, .int p2, .int p3] : List Value).toArray bl me co H locs 0 0 (MQ bl (cQi D k (wModel k g s im fr hd nw hh qs_0 qz_0 it_0 th hm ow lo) ss.heap.size r (wModel k g s im fr hd nw hh qs' qz' it' th hm ow lo)) ([.ref (g 0), .int p1, .int p2, .int p3] : List Value).toArray ss 0 0 (va_A (wModel k g s im fr hd nw hh qs_0 qz_0 it_0 th hm ow lo) ss.heap.size)) (F0 mm 0 ls []) := by
    intro H locs _ _ hP hS
    refine lv_iload_n hx hb dX8_sheet_0 rfl (lv_at hl 1 rfl) ?_
    obtain ⟨v1001, h1002, he⟩ := bn1_i he
    refine cSi (rest := []) ⟨hx, hb, hml, hown, hts⟩ hK hA hP hD hS (mX8_isSheet l D k h1002) (cwS 1 hts gX8_sheet_X8_isSheet rfl rfl rfl kX8_isSheet ⟨Nat.le_of_ble_eq_true rfl, Nat.le_of_ble_eq_true rfl⟩) rfl hl.1 rfl (Nat.le_of_ble_eq_true rfl) ⟨Nat.le_refl 0, Nat.le_refl 0⟩ dX8_sheet_1 (fun H locs hP hD hS => ?_)
    refine lv_if_eq (tgt := 27) hx hb dX8_sheet_4 (by decide) (fun c1003 => ?_) (fun c1003 => ?_)
    · have he := ifp he c1003
      refine lv_bipush (v := (-2)) hx hb dX8_sheet_27 (by decide) ?_
      obtain ⟨rfl, rfl, rfl, rfl⟩ := some4 he
      exact cRi hx hb hr hlk hK rfl hP hD hS dX8_sheet_29
    · have he := ifn he c1003
      refine lv_iload_n hx hb dX8_sheet_7 rfl (lv_at hl 2 rfl) ?_
      refine lv_iconst (v := (-1)) hx hb dX8_sheet_8 (by decide) ?_
      refine lv_iconst (v := 1) hx hb dX8_sheet_9 (by decide) ?_
      obtain ⟨v1004, h1005, he⟩ := bn1_i he
      refine cSi (rest := []) ⟨hx, hb, hml, hown, hts⟩ hK hA hP hD hS (mX8_in l D k h1005) (cwS 3 hts gX8_sheet_X8_in rfl rfl rfl kX8_in ⟨Nat.le_of_ble_eq_true rfl, Nat.le_of_ble_eq_true rfl⟩) rfl hl.1 rfl (Nat.le_of_ble_eq_true rfl) ⟨Nat.le_refl 0, Nat.le_refl 0⟩ dX8_sheet_10 (fun H locs hP hD hS => ?_)
      refine lv_if_eq (tgt := 27) hx hb dX8_sheet_13 (by decide) (fun c1006 => ?_) (fun c1006 => ?_)
      · have he := ifp he c1006
        refine lv_bipush (v := (-2)) hx hb dX8_sheet_27 (by decide) ?_
        obtain ⟨rfl, rfl, rfl, rfl⟩ := some4 he
        exact cRi hx hb hr hlk hK rfl hP hD hS dX8_sheet_29
      · have he := ifn he c1006
        refine lv_iload_n hx hb dX8_sheet_16 rfl (lv_at hl 2 rfl) ?_
        refine lv_iconst (v := (-1)) hx hb dX8_sheet_17 (by decide) ?_
        refine lv_icmp_eq (tgt := 30) hx hb dX8_sheet_18 (by decide) (fun c1007 => ?_) (fun c1007 => ?_)
        · have he := ifp he c1007
          exact B30 p1 p2 p3 qs_0 qz_0 it_0 he H locs hP hD hS ls (lv_sub hl [0, 1, 2, 3] rfl)
        · have he := ifn he c1007
          refine lv_iload_n hx hb dX8_sheet_21 rfl (lv_at hl 3 rfl) ?_
          refine lv_bipush (v := 40) hx hb dX8_sheet_22 (by decide) ?_
          refine lv_icmp_le (tgt := 30) hx hb dX8_sheet_24 (by decide) (fun c1008 => ?_) (fun c1008 => ?_)
          · have he := ifp he c1008
            exact B30 p1 p2 p3 qs_0 qz_0 it_0 he H locs hP hD hS ls (lv_sub hl [0, 1, 2, 3] rfl)
          · have he := ifn he c1008
            refine lv_bipush (v := (-2)) hx hb dX8_sheet_27 (by decide) ?_
            obtain ⟨rfl, rfl, rfl, rfl⟩ := some4 he
            exact cRi hx hb hr hlk hK rfl hP hD hS dX8_sheet_29
  exact key ss.heap [] rfl rfl hP hS
theorem kX8_cell : yX8_cell.cls = RX8 ∧ yX8_cell.cls ≠ "java/lang/invoke/MethodHandle" ∧ yX8_cell.cls ≠ "java/lang/invoke/VarHandle" ∧ (parseMethodDescriptor yX8_cell.desc).map (fun d => d.parameters.length) = some 3 := by decide +kernel
set_option maxRecDepth 100000 in
set_option maxHeartbeats 4000000 in
theorem mX8_cell (l : Launch) (D : va_G) (k : Nat → ClassId) (g : Nat → Nat) {s : Nat → Int32} {im : Nat → Int32} {fr : Nat → Int32} {hd : Nat → Int32} {nw : Nat → Int32} {hh : Nat → Int32} {qs : Nat → Int32} {qz : Nat → Int32} {it_0 : Nat → Int64} {th : Int32} {hm : Int32} {ow : Int32} {lo : Int32} {p1 : Int32} {p2 : Int32} {p3 : Int64} {r : Int32} {it' : Nat → Int64} (he : xX8_cell qs qz it_0 p1 p2 p3 = some (r, it')) : CtI l D k yX8_cell wsX8_cell ({ frames := 2, cells := 0, slots := 0, locals := 42 } : Room) [.ref (g 0), .int p1, .int p2, .long p3] (wModel k g s im fr hd nw hh qs qz it_0 th hm ow lo) r (wModel k g s im fr hd nw hh qs qz it' th hm ow lo) := by
  intro sz9
  refine cSt (lv := [(0, .ref (g 0)), (1, .int p1), (2, .int p2), (3, .long p3)]) (own := RX8) (cc := cX8_cell) (nL := 5) (ret := (some .int)) (by decide +kernel) rfl rfl (Nat.le_of_ble_eq_true rfl) rfl ?_
  intro pp ee ss mm bl me co hsz hC0 hP hD hS ls hl
  subst hsz
  obtain ⟨hx, hb, hr, hml, hown, hts, hK, hlk⟩ := hC0
  have hA : ∀ q, ss.heap.size ≤ q → va_A (wModel k g s im fr hd nw hh qs qz it_0 th hm ow lo) ss.heap.size q := fun q h => Or.inr h
  have iX8 : ∀ w ∈ wsX80, w ∈ wsX8_cell := fun _ h => List.mem_cons_of_mem _ (List.mem_append_right _ h)
  have w1 := hts (.fieldLink RX8 28 "DeadListPoolModel" "sorts" "[I") (List.mem_of_getElem? (i := 1) rfl)
  have w2 := hts (.fieldLink RX8 31 "DeadListPoolModel" "sizes" "[I") (List.mem_of_getElem? (i := 2) rfl)
  have w3 := hts (.fieldLink RX8 34 "DeadListPoolModel" "items" "[J") (List.mem_of_getElem? (i := 3) rfl)
  have hS0 := hS
  have key : ∀ (H : Heap) (locs : List Loc), H = ss.heap → locs = [] → va_P D vwCl (wModel k g s im fr hd nw hh qs qz it_0 th hm ow lo) H → va_S (va_A (wModel k g s im fr hd nw hh qs qz it_0 th hm ow lo) ss.heap.size) ss.heap H locs → W pp l ee ({ frames := 2, cells := 0, slots := 0, locals := 42 } : Room) ss mm ([.ref (g 0), .int p1, .int p2, .long p3] : List Value).toArray bl me co H locs 0 0 (MQ bl (cQi D k (wModel k g s im fr hd nw hh qs qz it_0 th hm ow lo) ss.heap.size r (wModel k g s im fr hd nw hh qs qz it' th hm ow lo)) ([.ref (g 0), .int p1, .int p2, .long p3] : List Value).toArray ss 0 0 (va_A (wModel k g s im fr hd nw hh qs qz it_0 th hm ow lo) ss.heap.size)) (F0 mm 0 ls []) := by
    intro H locs _ _ hP hS
    refine lv_iload_n hx hb dX8_cell_0 rfl (lv_at hl 1 rfl) ?_
    obtain ⟨v1001, h1002, he⟩ := bn1_i he
    refine cSi (rest := []) ⟨hx, hb, hml, hown, hts⟩ hK hA hP hD hS (mX8_isSheet l D k h1002) (cwS 1 hts gX8_cell_X8_isSheet rfl rfl rfl kX8_isSheet ⟨Nat.le_of_ble_eq_true rfl, Nat.le_of_ble_eq_true rfl⟩) rfl hl.1 rfl (Nat.le_of_ble_eq_true rfl) ⟨Nat.le_refl 0, Nat.le_refl 0⟩ dX8_cell_1 (fun H locs hP hD hS => ?_)
    refine lv_if_ne (tgt := 10) hx hb dX8_cell_4 (by decide) (fun c1003 => ?_) (fun c1003 => ?_)
    · have he := ifn he c1003
      refine lv_aload_n hx hb dX8_cell_10 rfl (lv_at hl 0 rfl) ?_
      refine va_get (D := D) (ci := 8) (v := .ref (g 7)) (C := RX8) (T := TX8) (N := 13) hx hb hts iX8 hown hK hP 0 rfl rfl 9 (by decide) w1 (fun _ h9 => h9) rfl dX8_cell_11 ?_
      refine lv_iload_n hx hb dX8_cell_14 rfl (lv_at hl 1 rfl) ?_
      obtain ⟨h1004, he⟩ := grd_i he
      refine va_iald hx hb hK hP 7 0 rfl rfl (ix_in h1004) dX8_cell_15 ?_
      refine lv_iconst (v := (-1)) hx hb dX8_cell_16 (by decide) ?_
      refine lv_icmp_ne (tgt := 23) hx hb dX8_cell_17 (by decide) (fun c1005 => ?_) (fun c1005 => ?_)
      · have he := ifn he c1005
        refine lv_iload_n hx hb dX8_cell_23 rfl (lv_at hl 2 rfl) ?_
        refine lv_iconst (v := 0) hx hb dX8_cell_24 (by decide) ?_
        refine lv_aload_n hx hb dX8_cell_25 rfl (lv_at hl 0 rfl) ?_
        refine va_get (D := D) (ci := 8) (v := .ref (g 8)) (C := RX8) (T := TX8) (N := 13) hx hb hts iX8 hown hK hP 0 rfl rfl 10 (by decide) w2 (fun _ h9 => h9) rfl dX8_cell_26 ?_
        refine lv_iload_n hx hb dX8_cell_29 rfl (lv_at hl 1 rfl) ?_
        obtain ⟨h1006, he⟩ := grd_i he
        refine va_iald hx hb hK hP 8 0 rfl rfl (ix_in h1006) dX8_cell_30 ?_
        refine lv_iconst (v := 1) hx hb dX8_cell_31 (by decide) ?_
        refine lv_isub hx hb dX8_cell_32 ?_
        obtain ⟨v1007, h1008, he⟩ := bn1_i he
        refine cSi (rest := []) ⟨hx, hb, hml, hown, hts⟩ hK hA hP hD hS (mX8_in l D k h1008) (cwS 3 hts gX8_cell_X8_in rfl rfl rfl kX8_in ⟨Nat.le_of_ble_eq_true rfl, Nat.le_of_ble_eq_true rfl⟩) rfl hl.1 rfl (Nat.le_of_ble_eq_true rfl) ⟨Nat.le_refl 0, Nat.le_refl 0⟩ dX8_cell_33 (fun H locs hP hD hS => ?_)
        refine lv_if_ne (tgt := 42) hx hb dX8_cell_36 (by decide) (fun c1009 => ?_) (fun c1009 => ?_)
        · have he := ifn he c1009
          refine lv_aload_n hx hb dX8_cell_42 rfl (lv_at hl 0 rfl) ?_
          refine va_get (D := D) (ci := 8) (v := .ref (g 9)) (C := RX8) (T := TX8) (N := 13) hx hb hts iX8 hown hK hP 0 rfl rfl 11 (by decide) w3 (fun _ h9 => h9) rfl dX8_cell_43 ?_
          refine lv_bipush (v := 40) hx hb dX8_cell_46 (by decide) ?_
          refine lv_iload_n hx hb dX8_cell_48 rfl (lv_at hl 1 rfl) ?_
          refine lv_imul hx hb dX8_cell_49 ?_
          refine lv_iload_n hx hb dX8_cell_50 rfl (lv_at hl 2 rfl) ?_
          refine lv_iadd hx hb dX8_cell_51 ?_
          refine lv_aload_n hx hb dX8_cell_52 rfl (lv_at hl 0 rfl) ?_
          refine va_get (D := D) (ci := 8) (v := .ref (g 7)) (C := RX8) (T := TX8) (N := 13) hx hb hts iX8 hown hK hP 0 rfl rfl 9 (by decide) w1 (fun _ h9 => h9) rfl dX8_cell_53 ?_
          refine lv_iload_n hx hb dX8_cell_56 rfl (lv_at hl 1 rfl) ?_
          obtain ⟨h1010, he⟩ := grd_i he
          refine va_iald hx hb hK hP 7 0 rfl rfl (ix_in h1010) dX8_cell_57 ?_
          refine lv_if_ne (tgt := 67) hx hb dX8_cell_58 (by decide) (fun c1011 => ?_) (fun c1011 => ?_)
          · have he := ifn he c1011
            refine lv_lload_n hx hb dX8_cell_67 rfl (lv_at hl 3 rfl) ?_
            obtain ⟨h1012, he⟩ := grd_i he
            obtain ⟨it1013, e1014, he⟩ := lt_i he
            refine va_last hx hb hK hP hD hS 9 1 rfl rfl (ix_in h1012) dX8_cell_68 (fun H locs hP hD hS => ?_)
            have hP : va_P D vwCl (wModel k g s im fr hd nw hh qs qz it1013 th hm ow lo) H := by rw [e1014]; exact hP
            have hD : va_D _ (wModel k g s im fr hd nw hh qs qz it1013 th hm ow lo) := va_D_adr (by rw [e1014]; rfl) hD
            refine lv_iconst (v := 1) hx hb dX8_cell_69 (by decide) ?_
            obtain ⟨rfl, rfl⟩ := some2 he
            exact cRi hx hb hr hlk hK rfl hP hD hS dX8_cell_70
          · have he := ifp he c1011
            refine lv_lload_n hx hb dX8_cell_61 rfl (lv_at hl 3 rfl) ?_
            refine lv_l2i (v := (Int64.toInt32 p3)) hx hb dX8_cell_62 rfl ?_
            refine lv_i2l (v := (Int32.toInt64 (Int64.toInt32 p3))) hx hb dX8_cell_63 rfl ?_
            refine lv_goto (tgt := 68) hx hb dX8_cell_64 (by decide) ?_
            obtain ⟨h1015, he⟩ := grd_i he
            obtain ⟨it1016, e1017, he⟩ := lt_i he
            refine va_last hx hb hK hP hD hS 9 1 rfl rfl (ix_in h1015) dX8_cell_68 (fun H locs hP hD hS => ?_)
            have hP : va_P D vwCl (wModel k g s im fr hd nw hh qs qz it1016 th hm ow lo) H := by rw [e1017]; exact hP
            have hD : va_D _ (wModel k g s im fr hd nw hh qs qz it1016 th hm ow lo) := va_D_adr (by rw [e1017]; rfl) hD
            refine lv_iconst (v := 1) hx hb dX8_cell_69 (by decide) ?_
            obtain ⟨rfl, rfl⟩ := some2 he
            exact cRi hx hb hr hlk hK rfl hP hD hS dX8_cell_70
        · have he := ifp he c1009
          refine lv_bipush (v := (-12)) hx hb dX8_cell_39 (by decide) ?_
          obtain ⟨rfl, rfl⟩ := some2 he
          exact cRi hx hb hr hlk hK rfl hP hD hS dX8_cell_41
      · have he := ifp he c1005
        refine lv_bipush (v := (-11)) hx hb dX8_cell_20 (by decide) ?_
        obtain ⟨rfl, rfl⟩ := some2 he
        exact cRi hx hb hr hlk hK rfl hP hD hS dX8_cell_22
    · have he := ifp he c1003
      refine lv_bipush (v := (-2)) hx hb dX8_cell_7 (by decide) ?_
      obtain ⟨rfl, rfl⟩ := some2 he
      exact cRi hx hb hr hlk hK rfl hP hD hS dX8_cell_9
  exact key ss.heap [] rfl rfl hP hS
theorem kX8_item : yX8_item.cls = RX8 ∧ yX8_item.cls ≠ "java/lang/invoke/MethodHandle" ∧ yX8_item.cls ≠ "java/lang/invoke/VarHandle" ∧ (parseMethodDescriptor yX8_item.desc).map (fun d => d.parameters.length) = some 2 := by decide +kernel
set_option maxRecDepth 100000 in
set_option maxHeartbeats 4000000 in
theorem mX8_item (l : Launch) (D : va_G) (k : Nat → ClassId) (g : Nat → Nat) {s : Nat → Int32} {im : Nat → Int32} {fr : Nat → Int32} {hd : Nat → Int32} {nw : Nat → Int32} {hh : Nat → Int32} {qs : Nat → Int32} {qz : Nat → Int32} {it : Nat → Int64} {th : Int32} {hm : Int32} {ow : Int32} {lo : Int32} {p1 : Int32} {p2 : Int32} {r : Int64}  (he : xX8_item qs qz it p1 p2 = some r) : CtL l D k yX8_item wsX8_item ({ frames := 2, cells := 0, slots := 0, locals := 42 } : Room) [.ref (g 0), .int p1, .int p2] (wModel k g s im fr hd nw hh qs qz it th hm ow lo) r (wModel k g s im fr hd nw hh qs qz it th hm ow lo) := by
  intro sz9
  refine cSt (lv := [(0, .ref (g 0)), (1, .int p1), (2, .int p2)]) (own := RX8) (cc := cX8_item) (nL := 3) (ret := (some .long)) (by decide +kernel) rfl rfl (Nat.le_of_ble_eq_true rfl) rfl ?_
  intro pp ee ss mm bl me co hsz hC0 hP hD hS ls hl
  subst hsz
  obtain ⟨hx, hb, hr, hml, hown, hts, hK, hlk⟩ := hC0
  have hA : ∀ q, ss.heap.size ≤ q → va_A (wModel k g s im fr hd nw hh qs qz it th hm ow lo) ss.heap.size q := fun q h => Or.inr h
  have w4 := hts (.constantLong RX8 134 (-4611686018427387904)) (List.mem_of_getElem? (i := 4) rfl)
  have iX8 : ∀ w ∈ wsX80, w ∈ wsX8_item := fun _ h => List.mem_cons_of_mem _ (List.mem_append_right _ h)
  have w1 := hts (.fieldLink RX8 28 "DeadListPoolModel" "sorts" "[I") (List.mem_of_getElem? (i := 1) rfl)
  have w2 := hts (.fieldLink RX8 31 "DeadListPoolModel" "sizes" "[I") (List.mem_of_getElem? (i := 2) rfl)
  have w3 := hts (.fieldLink RX8 34 "DeadListPoolModel" "items" "[J") (List.mem_of_getElem? (i := 3) rfl)
  have hS0 := hS
  have key : ∀ (H : Heap) (locs : List Loc), H = ss.heap → locs = [] → va_P D vwCl (wModel k g s im fr hd nw hh qs qz it th hm ow lo) H → va_S (va_A (wModel k g s im fr hd nw hh qs qz it th hm ow lo) ss.heap.size) ss.heap H locs → W pp l ee ({ frames := 2, cells := 0, slots := 0, locals := 42 } : Room) ss mm ([.ref (g 0), .int p1, .int p2] : List Value).toArray bl me co H locs 0 0 (MQ bl (cQl D k (wModel k g s im fr hd nw hh qs qz it th hm ow lo) ss.heap.size r (wModel k g s im fr hd nw hh qs qz it th hm ow lo)) ([.ref (g 0), .int p1, .int p2] : List Value).toArray ss 0 0 (va_A (wModel k g s im fr hd nw hh qs qz it th hm ow lo) ss.heap.size)) (F0 mm 0 ls []) := by
    intro H locs _ _ hP hS
    refine lv_iload_n hx hb dX8_item_0 rfl (lv_at hl 1 rfl) ?_
    obtain ⟨v1001, h1002, he⟩ := bn1_i he
    refine cSi (rest := []) ⟨hx, hb, hml, hown, hts⟩ hK hA hP hD hS (mX8_isSheet l D k h1002) (cwS 1 hts gX8_item_X8_isSheet rfl rfl rfl kX8_isSheet ⟨Nat.le_of_ble_eq_true rfl, Nat.le_of_ble_eq_true rfl⟩) rfl hl.1 rfl (Nat.le_of_ble_eq_true rfl) ⟨Nat.le_refl 0, Nat.le_refl 0⟩ dX8_item_1 (fun H locs hP hD hS => ?_)
    refine lv_if_eq (tgt := 47) hx hb dX8_item_4 (by decide) (fun c1003 => ?_) (fun c1003 => ?_)
    · have he := ifp he c1003
      refine lv_ldc2 hx hb hown w4 dX8_item_47 ?_
      obtain rfl := some1 he
      exact cRl hx hb hr hlk hK hP hD hS dX8_item_50
    · have he := ifn he c1003
      refine lv_aload_n hx hb dX8_item_7 rfl (lv_at hl 0 rfl) ?_
      refine va_get (D := D) (ci := 8) (v := .ref (g 7)) (C := RX8) (T := TX8) (N := 13) hx hb hts iX8 hown hK hP 0 rfl rfl 9 (by decide) w1 (fun _ h9 => h9) rfl dX8_item_8 ?_
      refine lv_iload_n hx hb dX8_item_11 rfl (lv_at hl 1 rfl) ?_
      obtain ⟨h1004, he⟩ := grd_i he
      refine va_iald hx hb hK hP 7 0 rfl rfl (ix_in h1004) dX8_item_12 ?_
      refine lv_iconst (v := (-1)) hx hb dX8_item_13 (by decide) ?_
      refine lv_icmp_eq (tgt := 47) hx hb dX8_item_14 (by decide) (fun c1005 => ?_) (fun c1005 => ?_)
      · have he := ifp he c1005
        refine lv_ldc2 hx hb hown w4 dX8_item_47 ?_
        obtain rfl := some1 he
        exact cRl hx hb hr hlk hK hP hD hS dX8_item_50
      · have he := ifn he c1005
        refine lv_iload_n hx hb dX8_item_17 rfl (lv_at hl 2 rfl) ?_
        refine lv_iconst (v := 0) hx hb dX8_item_18 (by decide) ?_
        refine lv_aload_n hx hb dX8_item_19 rfl (lv_at hl 0 rfl) ?_
        refine va_get (D := D) (ci := 8) (v := .ref (g 8)) (C := RX8) (T := TX8) (N := 13) hx hb hts iX8 hown hK hP 0 rfl rfl 10 (by decide) w2 (fun _ h9 => h9) rfl dX8_item_20 ?_
        refine lv_iload_n hx hb dX8_item_23 rfl (lv_at hl 1 rfl) ?_
        obtain ⟨h1006, he⟩ := grd_i he
        refine va_iald hx hb hK hP 8 0 rfl rfl (ix_in h1006) dX8_item_24 ?_
        refine lv_iconst (v := 1) hx hb dX8_item_25 (by decide) ?_
        refine lv_isub hx hb dX8_item_26 ?_
        obtain ⟨v1007, h1008, he⟩ := bn1_i he
        refine cSi (rest := []) ⟨hx, hb, hml, hown, hts⟩ hK hA hP hD hS (mX8_in l D k h1008) (cwS 3 hts gX8_item_X8_in rfl rfl rfl kX8_in ⟨Nat.le_of_ble_eq_true rfl, Nat.le_of_ble_eq_true rfl⟩) rfl hl.1 rfl (Nat.le_of_ble_eq_true rfl) ⟨Nat.le_refl 0, Nat.le_refl 0⟩ dX8_item_27 (fun H locs hP hD hS => ?_)
        refine lv_if_eq (tgt := 47) hx hb dX8_item_30 (by decide) (fun c1009 => ?_) (fun c1009 => ?_)
        · have he := ifp he c1009
          refine lv_ldc2 hx hb hown w4 dX8_item_47 ?_
          obtain rfl := some1 he
          exact cRl hx hb hr hlk hK hP hD hS dX8_item_50
        · have he := ifn he c1009
          refine lv_aload_n hx hb dX8_item_33 rfl (lv_at hl 0 rfl) ?_
          refine va_get (D := D) (ci := 8) (v := .ref (g 9)) (C := RX8) (T := TX8) (N := 13) hx hb hts iX8 hown hK hP 0 rfl rfl 11 (by decide) w3 (fun _ h9 => h9) rfl dX8_item_34 ?_
          refine lv_bipush (v := 40) hx hb dX8_item_37 (by decide) ?_
          refine lv_iload_n hx hb dX8_item_39 rfl (lv_at hl 1 rfl) ?_
          refine lv_imul hx hb dX8_item_40 ?_
          refine lv_iload_n hx hb dX8_item_41 rfl (lv_at hl 2 rfl) ?_
          refine lv_iadd hx hb dX8_item_42 ?_
          obtain ⟨h1010, he⟩ := grd_i he
          refine va_lald hx hb hK hP 9 1 rfl rfl (ix_in h1010) dX8_item_43 ?_
          refine lv_goto (tgt := 50) hx hb dX8_item_44 (by decide) ?_
          obtain rfl := some1 he
          exact cRl hx hb hr hlk hK hP hD hS dX8_item_50
  exact key ss.heap [] rfl rfl hP hS
theorem kX8_differ : yX8_differ.cls = RX8 ∧ yX8_differ.cls ≠ "java/lang/invoke/MethodHandle" ∧ yX8_differ.cls ≠ "java/lang/invoke/VarHandle" ∧ (parseMethodDescriptor yX8_differ.desc).map (fun d => d.parameters.length) = some 3 := by decide +kernel
set_option maxRecDepth 100000 in
set_option maxHeartbeats 4000000 in
theorem mX8_differ (l : Launch) (D : va_G) (k : Nat → ClassId) (g : Nat → Nat) {s : Nat → Int32} {im : Nat → Int32} {fr : Nat → Int32} {hd : Nat → Int32} {nw : Nat → Int32} {hh : Nat → Int32} {qs_0 : Nat → Int32} {qz_0 : Nat → Int32} {it_0 : Nat → Int64} {th : Int32} {hm : Int32} {ow : Int32} {lo : Int32} {p1 : Int32} {p2 : Int32} {p3 : Int32} {r : Int32} {qs' : Nat → Int32} {qz' : Nat → Int32} {it' : Nat → Int64} (he : xX8_differ s qs_0 qz_0 it_0 p1 p2 p3 = some (r, qs', qz', it')) : CtI l D k yX8_differ wsX8_differ ({ frames := 5, cells := 0, slots := 0, locals := 107 } : Room) [.ref (g 0), .int p1, .int p2, .int p3] (wModel k g s im fr hd nw hh qs_0 qz_0 it_0 th hm ow lo) r (wModel k g s im fr hd nw hh qs' qz' it' th hm ow lo) := by
  intro sz9
  refine cSt (lv := [(0, .ref (g 0)), (1, .int p1), (2, .int p2), (3, .int p3)]) (own := RX8) (cc := cX8_differ) (nL := 7) (ret := (some .int)) (by decide +kernel) rfl rfl (Nat.le_of_ble_eq_true rfl) rfl ?_
  intro pp ee ss mm bl me co hsz hC0 hP hD hS ls hl
  subst hsz
  obtain ⟨hx, hb, hr, hml, hown, hts, hK, hlk⟩ := hC0
  have hA : ∀ q, ss.heap.size ≤ q → va_A (wModel k g s im fr hd nw hh qs_0 qz_0 it_0 th hm ow lo) ss.heap.size q := fun q h => Or.inr h
  have iX8 : ∀ w ∈ wsX80, w ∈ wsX8_differ := fun _ h => List.mem_cons_of_mem _ (List.mem_append_right _ h)
  have w3 := hts (.fieldLink RX8 31 "DeadListPoolModel" "sizes" "[I") (List.mem_of_getElem? (i := 3) rfl)
  have w1 := hts (.fieldLink RX8 7 "DeadListPoolModel" "s" "[I") (List.mem_of_getElem? (i := 1) rfl)
  have w2 := hts (.fieldLink RX8 34 "DeadListPoolModel" "items" "[J") (List.mem_of_getElem? (i := 2) rfl)
  have B55 : ∀ (n55 : Nat) (x1 : Int32) (x2 : Int32) (x3 : Int32) (x5 : Int32) (x6 : Int32) (qs : Nat → Int32) (qz : Nat → Int32) (it : Nat → Int64), xX8_differ_55 s n55 x1 x2 x3 x5 x6 qs qz it = some (r, qs', qz', it') → ∀ (H : Heap) (locs : List Loc), va_P D vwCl (wModel k g s im fr hd nw hh qs qz it th hm ow lo) H → va_D (va_A (wModel k g s im fr hd nw hh qs_0 qz_0 it_0 th hm ow lo) ss.heap.size) (wModel k g s im fr hd nw hh qs qz it th hm ow lo) → va_S (va_A (wModel k g s im fr hd nw hh qs_0 qz_0 it_0 th hm ow lo) ss.heap.size) ss.heap H locs → ∀ ls : Array Slot, lv_has ls 7 [(0, .ref (g 0)), (1, .int x1), (2, .int x2), (3, .int x3), (5, .int x5), (6, .int x6)] → W pp l ee ({ frames := 5, cells := 0, slots := 0, locals := 107 } : Room) ss mm ([.ref (g 0), .int p1, .int p2, .int p3] : List Value).toArray bl me co H locs 0 0 (MQ bl (cQi D k (wModel k g s im fr hd nw hh qs_0 qz_0 it_0 th hm ow lo) ss.heap.size r (wModel k g s im fr hd nw hh qs' qz' it' th hm ow lo)) ([.ref (g 0), .int p1, .int p2, .int p3] : List Value).toArray ss 0 0 (va_A (wModel k g s im fr hd nw hh qs_0 qz_0 it_0 th hm ow lo) ss.heap.size)) (F0 mm 55 ls []) := by
    intro n55
    induction n55 with
    | zero =>
      intro x1 x2 x3 x5 x6 qs qz it he
      exact absurd (show (none : Option (Int32 × (Nat → Int32) × (Nat → Int32) × (Nat → Int64))) = some (r, qs', qz', it') from he) (by simp)
    | succ n55 ih55 =>
      intro x1 x2 x3 x5 x6 qs qz it he H locs hP hD hS ls hl
      refine lv_iload hx hb dX8_differ_55 (lv_at hl 5 rfl) ?_
      refine lv_bipush (v := 12) hx hb dX8_differ_57 (by decide) ?_
      refine lv_icmp_ge (tgt := 141) hx hb dX8_differ_59 (by decide) (fun c1 => ?_) (fun c1 => ?_)
      · have he := ifp he c1
        refine lv_aload_n hx hb dX8_differ_141 rfl (lv_at hl 0 rfl) ?_
        refine va_get (D := D) (ci := 8) (v := .ref (g 8)) (C := RX8) (T := TX8) (N := 13) hx hb hts iX8 hown hK hP 0 rfl rfl 10 (by decide) w3 (fun _ h9 => h9) rfl dX8_differ_142 ?_
        refine lv_iload_n hx hb dX8_differ_145 rfl (lv_at hl 1 rfl) ?_
        refine lv_iload hx hb dX8_differ_146 (lv_at hl 4 rfl) ?_
        obtain ⟨h2, he⟩ := grd_i he
        obtain ⟨qz3, e4, he⟩ := lt_i he
        refine va_iast hx hb hK hP hD hS 8 0 rfl rfl (ix_in h2) dX8_differ_148 (fun H locs hP hD hS => ?_)
        have hP : va_P D vwCl (wModel k g s im fr hd nw hh qs qz3 it th hm ow lo) H := by rw [e4]; exact hP
        have hD : va_D _ (wModel k g s im fr hd nw hh qs qz3 it th hm ow lo) := va_D_adr (by rw [e4]; rfl) hD
        refine lv_iload hx hb dX8_differ_149 (lv_at hl 4 rfl) ?_
        obtain ⟨rfl, rfl, rfl, rfl⟩ := some4 he
        exact cRi hx hb hr hlk hK rfl hP hD hS dX8_differ_151
      · have he := ifn he c1
        refine lv_aload_n hx hb dX8_differ_62 rfl (lv_at hl 0 rfl) ?_
        refine va_get (D := D) (ci := 8) (v := .ref (g 1)) (C := RX8) (T := TX8) (N := 13) hx hb hts iX8 hown hK hP 0 rfl rfl 1 (by decide) w1 (fun _ h9 => h9) rfl dX8_differ_63 ?_
        refine lv_bipush (v := 122) hx hb dX8_differ_66 (by decide) ?_
        refine lv_bipush (v := 12) hx hb dX8_differ_68 (by decide) ?_
        refine lv_iload_n hx hb dX8_differ_70 rfl (lv_at hl 2 rfl) ?_
        refine lv_imul hx hb dX8_differ_71 ?_
        refine lv_iadd hx hb dX8_differ_72 ?_
        refine lv_iload hx hb dX8_differ_73 (lv_at hl 5 rfl) ?_
        refine lv_iadd hx hb dX8_differ_75 ?_
        obtain ⟨h5, he⟩ := grd_i he
        refine va_iald hx hb hK hP 1 0 rfl rfl (ix_in h5) dX8_differ_76 ?_
        refine lv_aload_n hx hb dX8_differ_77 rfl (lv_at hl 0 rfl) ?_
        refine va_get (D := D) (ci := 8) (v := .ref (g 1)) (C := RX8) (T := TX8) (N := 13) hx hb hts iX8 hown hK hP 0 rfl rfl 1 (by decide) w1 (fun _ h9 => h9) rfl dX8_differ_78 ?_
        refine lv_bipush (v := 122) hx hb dX8_differ_81 (by decide) ?_
        refine lv_bipush (v := 12) hx hb dX8_differ_83 (by decide) ?_
        refine lv_iload_n hx hb dX8_differ_85 rfl (lv_at hl 3 rfl) ?_
        refine lv_imul hx hb dX8_differ_86 ?_
        refine lv_iadd hx hb dX8_differ_87 ?_
        refine lv_iload hx hb dX8_differ_88 (lv_at hl 5 rfl) ?_
        refine lv_iadd hx hb dX8_differ_90 ?_
        obtain ⟨h6, he⟩ := grd_i he
        refine va_iald hx hb hK hP 1 0 rfl rfl (ix_in h6) dX8_differ_91 ?_
        refine lv_icmp_eq (tgt := 135) hx hb dX8_differ_92 (by decide) (fun c7 => ?_) (fun c7 => ?_)
        · have he := ifp he c7
          refine lv_iinc (v := (x6 + 1)) (lv' := [(6, .int (x6 + 1)), (0, .ref (g 0)), (1, .int x1), (2, .int x2), (3, .int x3), (5, .int x5)]) hx hb dX8_differ_135 hl (k := 5) rfl rfl (by decide) rfl (fun ls hl => ?_)
          refine lv_goto (tgt := 55) hx hb dX8_differ_138 (by decide) ?_
          exact ih55 x1 x2 x3 x5 (x6 + 1) qs qz it he H locs hP hD hS ls (lv_sub hl [1, 2, 3, 4, 5, 0] rfl)
        · have he := ifn he c7
          refine lv_aload_n hx hb dX8_differ_95 rfl (lv_at hl 0 rfl) ?_
          refine va_get (D := D) (ci := 8) (v := .ref (g 9)) (C := RX8) (T := TX8) (N := 13) hx hb hts iX8 hown hK hP 0 rfl rfl 11 (by decide) w2 (fun _ h9 => h9) rfl dX8_differ_96 ?_
          refine lv_bipush (v := 40) hx hb dX8_differ_99 (by decide) ?_
          refine lv_iload_n hx hb dX8_differ_101 rfl (lv_at hl 1 rfl) ?_
          refine lv_imul hx hb dX8_differ_102 ?_
          refine lv_iload hx hb dX8_differ_103 (lv_at hl 4 rfl) ?_
          refine lv_iadd hx hb dX8_differ_105 ?_
          refine lv_iload hx hb dX8_differ_106 (lv_at hl 5 rfl) ?_
          refine lv_i2l (v := (Int32.toInt64 x6)) hx hb dX8_differ_108 rfl ?_
          obtain ⟨h8, he⟩ := grd_i he
          obtain ⟨it9, e10, he⟩ := lt_i he
          refine va_last hx hb hK hP hD hS 9 1 rfl rfl (ix_in h8) dX8_differ_109 (fun H locs hP hD hS => ?_)
          have hP : va_P D vwCl (wModel k g s im fr hd nw hh qs qz it9 th hm ow lo) H := by rw [e10]; exact hP
          have hD : va_D _ (wModel k g s im fr hd nw hh qs qz it9 th hm ow lo) := va_D_adr (by rw [e10]; rfl) hD
          refine lv_aload_n hx hb dX8_differ_110 rfl (lv_at hl 0 rfl) ?_
          refine va_get (D := D) (ci := 8) (v := .ref (g 9)) (C := RX8) (T := TX8) (N := 13) hx hb hts iX8 hown hK hP 0 rfl rfl 11 (by decide) w2 (fun _ h9 => h9) rfl dX8_differ_111 ?_
          refine lv_bipush (v := 40) hx hb dX8_differ_114 (by decide) ?_
          refine lv_iload_n hx hb dX8_differ_116 rfl (lv_at hl 1 rfl) ?_
          refine lv_imul hx hb dX8_differ_117 ?_
          refine lv_iload hx hb dX8_differ_118 (lv_at hl 4 rfl) ?_
          refine lv_iadd hx hb dX8_differ_120 ?_
          refine lv_iconst (v := 1) hx hb dX8_differ_121 (by decide) ?_
          refine lv_iadd hx hb dX8_differ_122 ?_
          refine lv_aload_n hx hb dX8_differ_123 rfl (lv_at hl 0 rfl) ?_
          refine lv_iload_n hx hb dX8_differ_124 rfl (lv_at hl 3 rfl) ?_
          refine lv_iload hx hb dX8_differ_125 (lv_at hl 5 rfl) ?_
          obtain ⟨v11, h12, he⟩ := bn1_i he
          refine cVir (As := [.int x3, .int x6]) (rest := [.int (((40 * x1) + x5) + 1), .ref (g 9)]) ⟨hx, hb, hml, hown, hts⟩ hK hA hP hD hS (mX8_sizeIn l D k g (s := s) (im := im) (fr := fr) (hd := hd) (nw := nw) (hh := hh) (qs := qs) (qz := qz) (it := it9) (th := th) (hm := hm) (ow := ow) (lo := lo) h12) (cwV 2 hts gX8_differ_X8_sizeIn rfl rfl rfl kX8_sizeIn ⟨Nat.le_of_ble_eq_true rfl, Nat.le_of_ble_eq_true rfl⟩) [0, 1, 2, 3, 4, 5, 6, 7, 8, 9] rfl rfl 0 rfl rfl rfl hl.1 rfl (Nat.le_of_ble_eq_true rfl) ⟨Nat.le_refl 0, Nat.le_refl 0⟩ dX8_differ_127 (fun H locs hP hD hS => ?_)
          refine lv_i2l (v := (Int32.toInt64 v11)) hx hb dX8_differ_130 rfl ?_
          obtain ⟨h13, he⟩ := grd_i he
          obtain ⟨it14, e15, he⟩ := lt_i he
          refine va_last hx hb hK hP hD hS 9 1 rfl rfl (ix_in h13) dX8_differ_131 (fun H locs hP hD hS => ?_)
          have hP : va_P D vwCl (wModel k g s im fr hd nw hh qs qz it14 th hm ow lo) H := by rw [e15]; exact hP
          have hD : va_D _ (wModel k g s im fr hd nw hh qs qz it14 th hm ow lo) := va_D_adr (by rw [e15]; rfl) hD
          refine lv_iinc (v := (x5 + 2)) (lv' := [(5, .int (x5 + 2)), (0, .ref (g 0)), (1, .int x1), (2, .int x2), (3, .int x3), (6, .int x6)]) hx hb dX8_differ_132 hl (k := 4) rfl rfl (by decide) rfl (fun ls hl => ?_)
          refine lv_iinc (v := (x6 + 1)) (lv' := [(6, .int (x6 + 1)), (5, .int (x5 + 2)), (0, .ref (g 0)), (1, .int x1), (2, .int x2), (3, .int x3)]) hx hb dX8_differ_135 hl (k := 5) rfl rfl (by decide) rfl (fun ls hl => ?_)
          refine lv_goto (tgt := 55) hx hb dX8_differ_138 (by decide) ?_
          exact ih55 x1 x2 x3 (x5 + 2) (x6 + 1) qs qz it14 he H locs hP hD hS ls (lv_sub hl [2, 3, 4, 5, 1, 0] rfl)
  have B32 : ∀ (x1 : Int32) (x2 : Int32) (x3 : Int32) (y0 : Int32) (qs : Nat → Int32) (qz : Nat → Int32) (it : Nat → Int64), xX8_differ_32 s x1 x2 x3 y0 qs qz it = some (r, qs', qz', it') → ∀ (H : Heap) (locs : List Loc), va_P D vwCl (wModel k g s im fr hd nw hh qs qz it th hm ow lo) H → va_D (va_A (wModel k g s im fr hd nw hh qs_0 qz_0 it_0 th hm ow lo) ss.heap.size) (wModel k g s im fr hd nw hh qs qz it th hm ow lo) → va_S (va_A (wModel k g s im fr hd nw hh qs_0 qz_0 it_0 th hm ow lo) ss.heap.size) ss.heap H locs → ∀ ls : Array Slot, lv_has ls 7 [(0, .ref (g 0)), (1, .int x1), (2, .int x2), (3, .int x3)] → W pp l ee ({ frames := 5, cells := 0, slots := 0, locals := 107 } : Room) ss mm ([.ref (g 0), .int p1, .int p2, .int p3] : List Value).toArray bl me co H locs 0 0 (MQ bl (cQi D k (wModel k g s im fr hd nw hh qs_0 qz_0 it_0 th hm ow lo) ss.heap.size r (wModel k g s im fr hd nw hh qs' qz' it' th hm ow lo)) ([.ref (g 0), .int p1, .int p2, .int p3] : List Value).toArray ss 0 0 (va_A (wModel k g s im fr hd nw hh qs_0 qz_0 it_0 th hm ow lo) ss.heap.size)) (F0 mm 32 ls [.int y0]) := by
    intro x1 x2 x3 y0 qs qz it he H locs hP hD hS ls hl
    refine lv_istore (lv' := [(4, .int y0), (0, .ref (g 0)), (1, .int x1), (2, .int x2), (3, .int x3)]) hx hb dX8_differ_32 hl (by decide) rfl (fun ls hl => ?_)
    refine lv_iload hx hb dX8_differ_34 (lv_at hl 0 rfl) ?_
    refine lv_if_eq (tgt := 42) hx hb dX8_differ_36 (by decide) (fun c16 => ?_) (fun c16 => ?_)
    · have he := ifp he c16
      refine lv_aload_n hx hb dX8_differ_42 rfl (lv_at hl 1 rfl) ?_
      refine lv_iload_n hx hb dX8_differ_43 rfl (lv_at hl 2 rfl) ?_
      refine lv_iconst (v := 1) hx hb dX8_differ_44 (by decide) ?_
      refine lv_iconst (v := 0) hx hb dX8_differ_45 (by decide) ?_
      obtain ⟨qs17, qz18, it19, h20, he⟩ := bn3_i he
      refine cVv (wf := (wModel k g s im fr hd nw hh qs17 qz18 it19 th hm ow lo)) (As := [.int x1, .int 1, .int 0]) (rest := []) ⟨hx, hb, hml, hown, hts⟩ hK hA hP hD hS (mX8_makes l D k g (s := s) (im := im) (fr := fr) (hd := hd) (nw := nw) (hh := hh) (qs_0 := qs) (qz_0 := qz) (it_0 := it) (th := th) (hm := hm) (ow := ow) (lo := lo) h20) (cwV 3 hts gX8_differ_X8_makes rfl rfl rfl kX8_makes ⟨Nat.le_of_ble_eq_true rfl, Nat.le_of_ble_eq_true rfl⟩) [0, 1, 2, 3, 4, 5, 6, 7, 8, 9] rfl rfl rfl [false, false, false, false, false, false, false, false, false, false] trivial 10 rfl (by decide +kernel) rfl 0 rfl rfl rfl hl.1 rfl (Nat.le_of_ble_eq_true rfl) ⟨Nat.le_refl 0, Nat.le_refl 0⟩ dX8_differ_46 (fun H locs hP hD hS => ?_)
      refine lv_iconst (v := 0) hx hb dX8_differ_49 (by decide) ?_
      refine lv_istore (lv' := [(5, .int 0), (4, .int y0), (0, .ref (g 0)), (1, .int x1), (2, .int x2), (3, .int x3)]) hx hb dX8_differ_50 hl (by decide) rfl (fun ls hl => ?_)
      refine lv_iconst (v := 0) hx hb dX8_differ_52 (by decide) ?_
      refine lv_istore (lv' := [(6, .int 0), (5, .int 0), (4, .int y0), (0, .ref (g 0)), (1, .int x1), (2, .int x2), (3, .int x3)]) hx hb dX8_differ_53 hl (by decide) rfl (fun ls hl => ?_)
      exact B55 600 x1 x2 x3 0 0 qs17 qz18 it19 he H locs hP hD hS ls (lv_sub hl [3, 4, 5, 6, 1, 0] rfl)
    · have he := ifn he c16
      refine lv_iload hx hb dX8_differ_39 (lv_at hl 0 rfl) ?_
      obtain ⟨rfl, rfl, rfl, rfl⟩ := some4 he
      exact cRi hx hb hr hlk hK rfl hP hD hS dX8_differ_41
  have hS0 := hS
  have key : ∀ (H : Heap) (locs : List Loc), H = ss.heap → locs = [] → va_P D vwCl (wModel k g s im fr hd nw hh qs_0 qz_0 it_0 th hm ow lo) H → va_S (va_A (wModel k g s im fr hd nw hh qs_0 qz_0 it_0 th hm ow lo) ss.heap.size) ss.heap H locs → W pp l ee ({ frames := 5, cells := 0, slots := 0, locals := 107 } : Room) ss mm ([.ref (g 0), .int p1, .int p2, .int p3] : List Value).toArray bl me co H locs 0 0 (MQ bl (cQi D k (wModel k g s im fr hd nw hh qs_0 qz_0 it_0 th hm ow lo) ss.heap.size r (wModel k g s im fr hd nw hh qs' qz' it' th hm ow lo)) ([.ref (g 0), .int p1, .int p2, .int p3] : List Value).toArray ss 0 0 (va_A (wModel k g s im fr hd nw hh qs_0 qz_0 it_0 th hm ow lo) ss.heap.size)) (F0 mm 0 ls []) := by
    intro H locs _ _ hP hS
    refine lv_iload_n hx hb dX8_differ_0 rfl (lv_at hl 1 rfl) ?_
    obtain ⟨v1001, h1002, he⟩ := bn1_i he
    refine cSi (rest := []) ⟨hx, hb, hml, hown, hts⟩ hK hA hP hD hS (mX8_isSheet l D k h1002) (cwS 1 hts gX8_differ_X8_isSheet rfl rfl rfl kX8_isSheet ⟨Nat.le_of_ble_eq_true rfl, Nat.le_of_ble_eq_true rfl⟩) rfl hl.1 rfl (Nat.le_of_ble_eq_true rfl) ⟨Nat.le_refl 0, Nat.le_refl 0⟩ dX8_differ_1 (fun H locs hP hD hS => ?_)
    refine lv_if_ne (tgt := 10) hx hb dX8_differ_4 (by decide) (fun c1003 => ?_) (fun c1003 => ?_)
    · have he := ifn he c1003
      refine lv_aload_n hx hb dX8_differ_10 rfl (lv_at hl 0 rfl) ?_
      refine lv_iload_n hx hb dX8_differ_11 rfl (lv_at hl 2 rfl) ?_
      obtain ⟨v1004, h1005, he⟩ := bn1_i he
      refine cVir (As := [.int p2]) (rest := []) ⟨hx, hb, hml, hown, hts⟩ hK hA hP hD hS (mX8_askedSlots l D k g (s := s) (im := im) (fr := fr) (hd := hd) (nw := nw) (hh := hh) (qs := qs_0) (qz := qz_0) (it := it_0) (th := th) (hm := hm) (ow := ow) (lo := lo) h1005) (cwV 1 hts gX8_differ_X8_askedSlots rfl rfl rfl kX8_askedSlots ⟨Nat.le_of_ble_eq_true rfl, Nat.le_of_ble_eq_true rfl⟩) [0, 1, 2, 3, 4, 5, 6, 7, 8, 9] rfl rfl 0 rfl rfl rfl hl.1 rfl (Nat.le_of_ble_eq_true rfl) ⟨Nat.le_refl 0, Nat.le_refl 0⟩ dX8_differ_12 (fun H locs hP hD hS => ?_)
      refine lv_istore (lv' := [(4, .int v1004), (0, .ref (g 0)), (1, .int p1), (2, .int p2), (3, .int p3)]) hx hb dX8_differ_15 hl (by decide) rfl (fun ls hl => ?_)
      refine lv_iload hx hb dX8_differ_17 (lv_at hl 0 rfl) ?_
      refine lv_if_eq (tgt := 27) hx hb dX8_differ_19 (by decide) (fun c1006 => ?_) (fun c1006 => ?_)
      · have he := ifp he c1006
        refine lv_aload_n hx hb dX8_differ_27 rfl (lv_at hl 1 rfl) ?_
        refine lv_iload_n hx hb dX8_differ_28 rfl (lv_at hl 4 rfl) ?_
        obtain ⟨v1007, h1008, he⟩ := bn1_i he
        refine cVir (As := [.int p3]) (rest := []) ⟨hx, hb, hml, hown, hts⟩ hK hA hP hD hS (mX8_askedSlots l D k g (s := s) (im := im) (fr := fr) (hd := hd) (nw := nw) (hh := hh) (qs := qs_0) (qz := qz_0) (it := it_0) (th := th) (hm := hm) (ow := ow) (lo := lo) h1008) (cwV 1 hts gX8_differ_X8_askedSlots rfl rfl rfl kX8_askedSlots ⟨Nat.le_of_ble_eq_true rfl, Nat.le_of_ble_eq_true rfl⟩) [0, 1, 2, 3, 4, 5, 6, 7, 8, 9] rfl rfl 0 rfl rfl rfl hl.1 rfl (Nat.le_of_ble_eq_true rfl) ⟨Nat.le_refl 0, Nat.le_refl 0⟩ dX8_differ_29 (fun H locs hP hD hS => ?_)
        exact B32 p1 p2 p3 v1007 qs_0 qz_0 it_0 he H locs hP hD hS ls (lv_sub hl [1, 2, 3, 4] rfl)
      · have he := ifn he c1006
        refine lv_iload hx hb dX8_differ_22 (lv_at hl 0 rfl) ?_
        refine lv_goto (tgt := 32) hx hb dX8_differ_24 (by decide) ?_
        exact B32 p1 p2 p3 v1004 qs_0 qz_0 it_0 he H locs hP hD hS ls (lv_sub hl [1, 2, 3, 4] rfl)
    · have he := ifp he c1003
      refine lv_bipush (v := (-2)) hx hb dX8_differ_7 (by decide) ?_
      obtain ⟨rfl, rfl, rfl, rfl⟩ := some4 he
      exact cRi hx hb hr hlk hK rfl hP hD hS dX8_differ_9
  exact key ss.heap [] rfl rfl hP hS
theorem kX8_isApplied : yX8_isApplied.cls = RX8 ∧ yX8_isApplied.cls ≠ "java/lang/invoke/MethodHandle" ∧ yX8_isApplied.cls ≠ "java/lang/invoke/VarHandle" ∧ (parseMethodDescriptor yX8_isApplied.desc).map (fun d => d.parameters.length) = some 3 := by decide +kernel
set_option maxRecDepth 100000 in
set_option maxHeartbeats 4000000 in
theorem mX8_isApplied (l : Launch) (D : va_G) (k : Nat → ClassId) (g : Nat → Nat) {s_0 : Nat → Int32} {im : Nat → Int32} {fr : Nat → Int32} {hd_0 : Nat → Int32} {nw : Nat → Int32} {hh : Nat → Int32} {qs : Nat → Int32} {qz : Nat → Int32} {it : Nat → Int64} {th : Int32} {hm : Int32} {ow : Int32} {lo : Int32} {p1 : Int32} {p2 : Int64} {p4 : Int64} {r : Int32} {s' : Nat → Int32} {hd' : Nat → Int32} (he : xX8_isApplied s_0 hd_0 p1 p2 p4 = some (r, s', hd')) : CtI l D k yX8_isApplied wsX8_isApplied ({ frames := 7, cells := 0, slots := 0, locals := 155 } : Room) [.ref (g 0), .int p1, .long p2, .long p4] (wModel k g s_0 im fr hd_0 nw hh qs qz it th hm ow lo) r (wModel k g s' im fr hd' nw hh qs qz it th hm ow lo) := by
  intro sz9
  refine cSt (lv := [(0, .ref (g 0)), (1, .int p1), (2, .long p2), (4, .long p4)]) (own := RX8) (cc := cX8_isApplied) (nL := 6) (ret := (some .boolean)) (by decide +kernel) rfl rfl (Nat.le_of_ble_eq_true rfl) rfl ?_
  intro pp ee ss mm bl me co hsz hC0 hP hD hS ls hl
  subst hsz
  obtain ⟨hx, hb, hr, hml, hown, hts, hK, hlk⟩ := hC0
  have hA : ∀ q, ss.heap.size ≤ q → va_A (wModel k g s_0 im fr hd_0 nw hh qs qz it th hm ow lo) ss.heap.size q := fun q h => Or.inr h
  have w1 := hts (.constantLong RX8 165 (11)) (List.mem_of_getElem? (i := 1) rfl)
  have w2 := hts (.constantLong RX8 167 (1000000000)) (List.mem_of_getElem? (i := 2) rfl)
  have hS0 := hS
  have key : ∀ (H : Heap) (locs : List Loc), H = ss.heap → locs = [] → va_P D vwCl (wModel k g s_0 im fr hd_0 nw hh qs qz it th hm ow lo) H → va_S (va_A (wModel k g s_0 im fr hd_0 nw hh qs qz it th hm ow lo) ss.heap.size) ss.heap H locs → W pp l ee ({ frames := 7, cells := 0, slots := 0, locals := 155 } : Room) ss mm ([.ref (g 0), .int p1, .long p2, .long p4] : List Value).toArray bl me co H locs 0 0 (MQ bl (cQi D k (wModel k g s_0 im fr hd_0 nw hh qs qz it th hm ow lo) ss.heap.size r (wModel k g s' im fr hd' nw hh qs qz it th hm ow lo)) ([.ref (g 0), .int p1, .long p2, .long p4] : List Value).toArray ss 0 0 (va_A (wModel k g s_0 im fr hd_0 nw hh qs qz it th hm ow lo) ss.heap.size)) (F0 mm 0 ls []) := by
    intro H locs _ _ hP hS
    refine lv_lload_n hx hb dX8_isApplied_0 rfl (lv_at hl 2 rfl) ?_
    refine lv_lconst (v := 0) hx hb dX8_isApplied_1 (by decide) ?_
    refine W.lcmp hx hb dX8_isApplied_2 ?_
    refine lv_if_lt (tgt := 30) hx hb dX8_isApplied_3 (by decide) (fun c1001 => ?_) (fun c1001 => ?_)
    · have he := ifp he c1001
      refine lv_iconst (v := 0) hx hb dX8_isApplied_30 (by decide) ?_
      obtain ⟨rfl, rfl, rfl⟩ := some3 he
      exact cRi hx hb hr hlk hK rfl hP hD hS dX8_isApplied_31
    · have he := ifn he c1001
      refine lv_lload_n hx hb dX8_isApplied_6 rfl (lv_at hl 2 rfl) ?_
      refine lv_ldc2 hx hb hown w1 dX8_isApplied_7 ?_
      refine W.lcmp hx hb dX8_isApplied_10 ?_
      refine lv_if_gt (tgt := 30) hx hb dX8_isApplied_11 (by decide) (fun c1002 => ?_) (fun c1002 => ?_)
      · have he := ifp he c1002
        refine lv_iconst (v := 0) hx hb dX8_isApplied_30 (by decide) ?_
        obtain ⟨rfl, rfl, rfl⟩ := some3 he
        exact cRi hx hb hr hlk hK rfl hP hD hS dX8_isApplied_31
      · have he := ifn he c1002
        refine lv_lload hx hb dX8_isApplied_14 (lv_at hl 3 rfl) ?_
        refine lv_lconst (v := 0) hx hb dX8_isApplied_16 (by decide) ?_
        refine W.lcmp hx hb dX8_isApplied_17 ?_
        refine lv_if_lt (tgt := 30) hx hb dX8_isApplied_18 (by decide) (fun c1003 => ?_) (fun c1003 => ?_)
        · have he := ifp he c1003
          refine lv_iconst (v := 0) hx hb dX8_isApplied_30 (by decide) ?_
          obtain ⟨rfl, rfl, rfl⟩ := some3 he
          exact cRi hx hb hr hlk hK rfl hP hD hS dX8_isApplied_31
        · have he := ifn he c1003
          refine lv_lload hx hb dX8_isApplied_21 (lv_at hl 3 rfl) ?_
          refine lv_ldc2 hx hb hown w2 dX8_isApplied_23 ?_
          refine W.lcmp hx hb dX8_isApplied_26 ?_
          refine lv_if_le (tgt := 32) hx hb dX8_isApplied_27 (by decide) (fun c1004 => ?_) (fun c1004 => ?_)
          · have he := ifp he c1004
            refine lv_lload hx hb dX8_isApplied_32 (lv_at hl 3 rfl) ?_
            refine lv_lconst (v := 0) hx hb dX8_isApplied_34 (by decide) ?_
            refine W.lcmp hx hb dX8_isApplied_35 ?_
            refine lv_if_ne (tgt := 49) hx hb dX8_isApplied_36 (by decide) (fun c1005 => ?_) (fun c1005 => ?_)
            · have he := ifn he c1005
              refine lv_aload_n hx hb dX8_isApplied_49 rfl (lv_at hl 0 rfl) ?_
              refine lv_iload_n hx hb dX8_isApplied_50 rfl (lv_at hl 1 rfl) ?_
              refine lv_lload_n hx hb dX8_isApplied_51 rfl (lv_at hl 2 rfl) ?_
              refine lv_l2i (v := (Int64.toInt32 p2)) hx hb dX8_isApplied_52 rfl ?_
              refine lv_lload hx hb dX8_isApplied_53 (lv_at hl 3 rfl) ?_
              refine lv_l2i (v := (Int64.toInt32 p4)) hx hb dX8_isApplied_55 rfl ?_
              obtain ⟨v1006, s1007, hd1008, h1009, he⟩ := bn3_i he
              refine cVi (wf := (wModel k g s1007 im fr hd1008 nw hh qs qz it th hm ow lo)) (As := [.int p1, .int (Int64.toInt32 p2), .int (Int64.toInt32 p4)]) (rest := []) ⟨hx, hb, hml, hown, hts⟩ hK hA hP hD hS (mX8_written l D k g (s_0 := s_0) (im := im) (fr := fr) (hd_0 := hd_0) (nw := nw) (hh := hh) (qs := qs) (qz := qz) (it := it) (th := th) (hm := hm) (ow := ow) (lo := lo) h1009) (cwV 3 hts gX8_isApplied_X8_written rfl rfl rfl kX8_written ⟨Nat.le_of_ble_eq_true rfl, Nat.le_of_ble_eq_true rfl⟩) [0, 1, 2, 3, 4, 5, 6, 7, 8, 9] rfl rfl rfl [false, false, false, false, false, false, false, false, false, false] trivial 10 rfl (by decide +kernel) rfl 0 rfl rfl rfl hl.1 rfl (Nat.le_of_ble_eq_true rfl) ⟨Nat.le_refl 0, Nat.le_refl 0⟩ dX8_isApplied_56 (fun H locs hP hD hS => ?_)
              refine lv_if_lt (tgt := 66) hx hb dX8_isApplied_59 (by decide) (fun c1010 => ?_) (fun c1010 => ?_)
              · have he := ifp he c1010
                refine lv_iconst (v := 0) hx hb dX8_isApplied_66 (by decide) ?_
                obtain ⟨rfl, rfl, rfl⟩ := some3 he
                exact cRi hx hb hr hlk hK rfl hP hD hS dX8_isApplied_67
              · have he := ifn he c1010
                refine lv_iconst (v := 1) hx hb dX8_isApplied_62 (by decide) ?_
                refine lv_goto (tgt := 67) hx hb dX8_isApplied_63 (by decide) ?_
                obtain ⟨rfl, rfl, rfl⟩ := some3 he
                exact cRi hx hb hr hlk hK rfl hP hD hS dX8_isApplied_67
            · have he := ifp he c1005
              refine lv_aload_n hx hb dX8_isApplied_39 rfl (lv_at hl 0 rfl) ?_
              refine lv_iload_n hx hb dX8_isApplied_40 rfl (lv_at hl 1 rfl) ?_
              refine lv_lload_n hx hb dX8_isApplied_41 rfl (lv_at hl 2 rfl) ?_
              refine lv_l2i (v := (Int64.toInt32 p2)) hx hb dX8_isApplied_42 rfl ?_
              obtain ⟨v1011, s1012, hd1013, h1014, he⟩ := bn3_i he
              refine cVi (wf := (wModel k g s1012 im fr hd1013 nw hh qs qz it th hm ow lo)) (As := [.int p1, .int (Int64.toInt32 p2)]) (rest := []) ⟨hx, hb, hml, hown, hts⟩ hK hA hP hD hS (mX8_erased l D k g (s_0 := s_0) (im := im) (fr := fr) (hd_0 := hd_0) (nw := nw) (hh := hh) (qs := qs) (qz := qz) (it := it) (th := th) (hm := hm) (ow := ow) (lo := lo) h1014) (cwV 2 hts gX8_isApplied_X8_erased rfl rfl rfl kX8_erased ⟨Nat.le_of_ble_eq_true rfl, Nat.le_of_ble_eq_true rfl⟩) [0, 1, 2, 3, 4, 5, 6, 7, 8, 9] rfl rfl rfl [false, false, false, false, false, false, false, false, false, false] trivial 10 rfl (by decide +kernel) rfl 0 rfl rfl rfl hl.1 rfl (Nat.le_of_ble_eq_true rfl) ⟨Nat.le_refl 0, Nat.le_refl 0⟩ dX8_isApplied_43 (fun H locs hP hD hS => ?_)
              refine lv_pop hx hb dX8_isApplied_46 rfl ?_
              refine lv_iconst (v := 1) hx hb dX8_isApplied_47 (by decide) ?_
              obtain ⟨rfl, rfl, rfl⟩ := some3 he
              exact cRi hx hb hr hlk hK rfl hP hD hS dX8_isApplied_48
          · have he := ifn he c1004
            refine lv_iconst (v := 0) hx hb dX8_isApplied_30 (by decide) ?_
            obtain ⟨rfl, rfl, rfl⟩ := some3 he
            exact cRi hx hb hr hlk hK rfl hP hD hS dX8_isApplied_31
  exact key ss.heap [] rfl rfl hP hS
theorem kX8_apply : yX8_apply.cls = RX8 ∧ yX8_apply.cls ≠ "java/lang/invoke/MethodHandle" ∧ yX8_apply.cls ≠ "java/lang/invoke/VarHandle" ∧ (parseMethodDescriptor yX8_apply.desc).map (fun d => d.parameters.length) = some 3 := by decide +kernel
set_option maxRecDepth 100000 in
set_option maxHeartbeats 4000000 in
theorem mX8_apply (l : Launch) (D : va_G) (k : Nat → ClassId) (g : Nat → Nat) {s_0 : Nat → Int32} {im : Nat → Int32} {fr : Nat → Int32} {hd_0 : Nat → Int32} {nw : Nat → Int32} {hh : Nat → Int32} {qs : Nat → Int32} {qz : Nat → Int32} {it : Nat → Int64} {th : Int32} {hm : Int32} {ow : Int32} {lo : Int32} {p1 : Int32} {p2 : Int32} {p3 : Int32} {r : Int32} {s' : Nat → Int32} {hd' : Nat → Int32} (he : xX8_apply qs qz it s_0 hd_0 p1 p2 p3 = some (r, s', hd')) : CtI l D k yX8_apply wsX8_apply ({ frames := 8, cells := 0, slots := 0, locals := 180 } : Room) [.ref (g 0), .int p1, .int p2, .int p3] (wModel k g s_0 im fr hd_0 nw hh qs qz it th hm ow lo) r (wModel k g s' im fr hd' nw hh qs qz it th hm ow lo) := by
  intro sz9
  refine cSt (lv := [(0, .ref (g 0)), (1, .int p1), (2, .int p2), (3, .int p3)]) (own := RX8) (cc := cX8_apply) (nL := 7) (ret := (some .int)) (by decide +kernel) rfl rfl (Nat.le_of_ble_eq_true rfl) rfl ?_
  intro pp ee ss mm bl me co hsz hC0 hP hD hS ls hl
  subst hsz
  obtain ⟨hx, hb, hr, hml, hown, hts, hK, hlk⟩ := hC0
  have hA : ∀ q, ss.heap.size ≤ q → va_A (wModel k g s_0 im fr hd_0 nw hh qs qz it th hm ow lo) ss.heap.size q := fun q h => Or.inr h
  have iX8 : ∀ w ∈ wsX80, w ∈ wsX8_apply := fun _ h => List.mem_cons_of_mem _ (List.mem_append_right _ h)
  have w2 := hts (.fieldLink RX8 31 "DeadListPoolModel" "sizes" "[I") (List.mem_of_getElem? (i := 2) rfl)
  have w3 := hts (.fieldLink RX8 34 "DeadListPoolModel" "items" "[J") (List.mem_of_getElem? (i := 3) rfl)
  have w1 := hts (.fieldLink RX8 28 "DeadListPoolModel" "sorts" "[I") (List.mem_of_getElem? (i := 1) rfl)
  have B77 : ∀ (n77 : Nat) (x1 : Int32) (x2 : Int32) (x5 : Int32) (x6 : Int32) (s : Nat → Int32) (hd : Nat → Int32), xX8_apply_77 qs qz it n77 x1 x2 x5 x6 s hd = some (r, s', hd') → ∀ (H : Heap) (locs : List Loc), va_P D vwCl (wModel k g s im fr hd nw hh qs qz it th hm ow lo) H → va_D (va_A (wModel k g s_0 im fr hd_0 nw hh qs qz it th hm ow lo) ss.heap.size) (wModel k g s im fr hd nw hh qs qz it th hm ow lo) → va_S (va_A (wModel k g s_0 im fr hd_0 nw hh qs qz it th hm ow lo) ss.heap.size) ss.heap H locs → ∀ ls : Array Slot, lv_has ls 7 [(0, .ref (g 0)), (1, .int x1), (2, .int x2), (5, .int x5), (6, .int x6)] → W pp l ee ({ frames := 8, cells := 0, slots := 0, locals := 180 } : Room) ss mm ([.ref (g 0), .int p1, .int p2, .int p3] : List Value).toArray bl me co H locs 0 0 (MQ bl (cQi D k (wModel k g s_0 im fr hd_0 nw hh qs qz it th hm ow lo) ss.heap.size r (wModel k g s' im fr hd' nw hh qs qz it th hm ow lo)) ([.ref (g 0), .int p1, .int p2, .int p3] : List Value).toArray ss 0 0 (va_A (wModel k g s_0 im fr hd_0 nw hh qs qz it th hm ow lo) ss.heap.size)) (F0 mm 77 ls []) := by
    intro n77
    induction n77 with
    | zero =>
      intro x1 x2 x5 x6 s hd he
      exact absurd (show (none : Option (Int32 × (Nat → Int32) × (Nat → Int32))) = some (r, s', hd') from he) (by simp)
    | succ n77 ih77 =>
      intro x1 x2 x5 x6 s hd he H locs hP hD hS ls hl
      refine lv_iload hx hb dX8_apply_77 (lv_at hl 4 rfl) ?_
      refine lv_iconst (v := 1) hx hb dX8_apply_79 (by decide) ?_
      refine lv_iadd hx hb dX8_apply_80 ?_
      refine lv_aload_n hx hb dX8_apply_81 rfl (lv_at hl 0 rfl) ?_
      refine va_get (D := D) (ci := 8) (v := .ref (g 8)) (C := RX8) (T := TX8) (N := 13) hx hb hts iX8 hown hK hP 0 rfl rfl 10 (by decide) w2 (fun _ h9 => h9) rfl dX8_apply_82 ?_
      refine lv_iload_n hx hb dX8_apply_85 rfl (lv_at hl 2 rfl) ?_
      obtain ⟨h1, he⟩ := grd_i he
      refine va_iald hx hb hK hP 8 0 rfl rfl (ix_in h1) dX8_apply_86 ?_
      refine lv_icmp_ge (tgt := 140) hx hb dX8_apply_87 (by decide) (fun c2 => ?_) (fun c2 => ?_)
      · have he := ifp he c2
        refine lv_aload_n hx hb dX8_apply_140 rfl (lv_at hl 0 rfl) ?_
        refine va_get (D := D) (ci := 8) (v := .ref (g 8)) (C := RX8) (T := TX8) (N := 13) hx hb hts iX8 hown hK hP 0 rfl rfl 10 (by decide) w2 (fun _ h9 => h9) rfl dX8_apply_141 ?_
        refine lv_iload_n hx hb dX8_apply_144 rfl (lv_at hl 2 rfl) ?_
        obtain ⟨h3, he⟩ := grd_i he
        refine va_iald hx hb hK hP 8 0 rfl rfl (ix_in h3) dX8_apply_145 ?_
        refine lv_iconst (v := 2) hx hb dX8_apply_146 (by decide) ?_
        refine lv_irem hx hb dX8_apply_147 (by decide) ?_
        refine lv_iconst (v := 1) hx hb dX8_apply_148 (by decide) ?_
        refine lv_icmp_ne (tgt := 157) hx hb dX8_apply_149 (by decide) (fun c4 => ?_) (fun c4 => ?_)
        · have he := ifn he c4
          refine lv_iload hx hb dX8_apply_157 (lv_at hl 3 rfl) ?_
          obtain ⟨rfl, rfl, rfl⟩ := some3 he
          exact cRi hx hb hr hlk hK rfl hP hD hS dX8_apply_159
        · have he := ifp he c4
          refine lv_bipush (v := (-12)) hx hb dX8_apply_152 (by decide) ?_
          refine lv_goto (tgt := 159) hx hb dX8_apply_154 (by decide) ?_
          obtain ⟨rfl, rfl, rfl⟩ := some3 he
          exact cRi hx hb hr hlk hK rfl hP hD hS dX8_apply_159
      · have he := ifn he c2
        refine lv_iload hx hb dX8_apply_90 (lv_at hl 3 rfl) ?_
        refine lv_aload_n hx hb dX8_apply_92 rfl (lv_at hl 0 rfl) ?_
        refine lv_iload_n hx hb dX8_apply_93 rfl (lv_at hl 1 rfl) ?_
        refine lv_aload_n hx hb dX8_apply_94 rfl (lv_at hl 0 rfl) ?_
        refine va_get (D := D) (ci := 8) (v := .ref (g 9)) (C := RX8) (T := TX8) (N := 13) hx hb hts iX8 hown hK hP 0 rfl rfl 11 (by decide) w3 (fun _ h9 => h9) rfl dX8_apply_95 ?_
        refine lv_bipush (v := 40) hx hb dX8_apply_98 (by decide) ?_
        refine lv_iload_n hx hb dX8_apply_100 rfl (lv_at hl 2 rfl) ?_
        refine lv_imul hx hb dX8_apply_101 ?_
        refine lv_iload hx hb dX8_apply_102 (lv_at hl 4 rfl) ?_
        refine lv_iadd hx hb dX8_apply_104 ?_
        obtain ⟨h5, he⟩ := grd_i he
        refine va_lald hx hb hK hP 9 1 rfl rfl (ix_in h5) dX8_apply_105 ?_
        refine lv_aload_n hx hb dX8_apply_106 rfl (lv_at hl 0 rfl) ?_
        refine va_get (D := D) (ci := 8) (v := .ref (g 9)) (C := RX8) (T := TX8) (N := 13) hx hb hts iX8 hown hK hP 0 rfl rfl 11 (by decide) w3 (fun _ h9 => h9) rfl dX8_apply_107 ?_
        refine lv_bipush (v := 40) hx hb dX8_apply_110 (by decide) ?_
        refine lv_iload_n hx hb dX8_apply_112 rfl (lv_at hl 2 rfl) ?_
        refine lv_imul hx hb dX8_apply_113 ?_
        refine lv_iload hx hb dX8_apply_114 (lv_at hl 4 rfl) ?_
        refine lv_iadd hx hb dX8_apply_116 ?_
        refine lv_iconst (v := 1) hx hb dX8_apply_117 (by decide) ?_
        refine lv_iadd hx hb dX8_apply_118 ?_
        obtain ⟨h6, he⟩ := grd_i he
        refine va_lald hx hb hK hP 9 1 rfl rfl (ix_in h6) dX8_apply_119 ?_
        obtain ⟨v7, s8, hd9, h10, he⟩ := bn3_i he
        refine cVi (wf := (wModel k g s8 im fr hd9 nw hh qs qz it th hm ow lo)) (As := [.int x1, .long (it (Int32.toNatClampNeg ((40 * x2) + x6))), .long (it (Int32.toNatClampNeg (((40 * x2) + x6) + 1)))]) (rest := [.int x5]) ⟨hx, hb, hml, hown, hts⟩ hK hA hP hD hS (mX8_isApplied l D k g (s_0 := s) (im := im) (fr := fr) (hd_0 := hd) (nw := nw) (hh := hh) (qs := qs) (qz := qz) (it := it) (th := th) (hm := hm) (ow := ow) (lo := lo) h10) (cwV 3 hts gX8_apply_X8_isApplied rfl rfl rfl kX8_isApplied ⟨Nat.le_of_ble_eq_true rfl, Nat.le_of_ble_eq_true rfl⟩) [0, 1, 2, 3, 4, 5, 6, 7, 8, 9] rfl rfl rfl [false, false, false, false, false, false, false, false, false, false] trivial 10 rfl (by decide +kernel) rfl 0 rfl rfl rfl hl.1 rfl (Nat.le_of_ble_eq_true rfl) ⟨Nat.le_refl 0, Nat.le_refl 0⟩ dX8_apply_120 (fun H locs hP hD hS => ?_)
        refine lv_if_eq (tgt := 130) hx hb dX8_apply_123 (by decide) (fun c11 => ?_) (fun c11 => ?_)
        · have he := ifp he c11
          refine lv_iconst (v := 0) hx hb dX8_apply_130 (by decide) ?_
          refine lv_iadd hx hb dX8_apply_131 ?_
          refine lv_istore (lv' := [(5, .int (x5 + 0)), (0, .ref (g 0)), (1, .int x1), (2, .int x2), (6, .int x6)]) hx hb dX8_apply_132 hl (by decide) rfl (fun ls hl => ?_)
          refine lv_iinc (v := (x6 + 2)) (lv' := [(6, .int (x6 + 2)), (5, .int (x5 + 0)), (0, .ref (g 0)), (1, .int x1), (2, .int x2)]) hx hb dX8_apply_134 hl (k := 4) rfl rfl (by decide) rfl (fun ls hl => ?_)
          refine lv_goto (tgt := 77) hx hb dX8_apply_137 (by decide) ?_
          exact ih77 x1 x2 (x5 + 0) (x6 + 2) s8 hd9 he H locs hP hD hS ls (lv_sub hl [2, 3, 4, 1, 0] rfl)
        · have he := ifn he c11
          refine lv_iconst (v := 1) hx hb dX8_apply_126 (by decide) ?_
          refine lv_goto (tgt := 131) hx hb dX8_apply_127 (by decide) ?_
          refine lv_iadd hx hb dX8_apply_131 ?_
          refine lv_istore (lv' := [(5, .int (x5 + 1)), (0, .ref (g 0)), (1, .int x1), (2, .int x2), (6, .int x6)]) hx hb dX8_apply_132 hl (by decide) rfl (fun ls hl => ?_)
          refine lv_iinc (v := (x6 + 2)) (lv' := [(6, .int (x6 + 2)), (5, .int (x5 + 1)), (0, .ref (g 0)), (1, .int x1), (2, .int x2)]) hx hb dX8_apply_134 hl (k := 4) rfl rfl (by decide) rfl (fun ls hl => ?_)
          refine lv_goto (tgt := 77) hx hb dX8_apply_137 (by decide) ?_
          exact ih77 x1 x2 (x5 + 1) (x6 + 2) s8 hd9 he H locs hP hD hS ls (lv_sub hl [2, 3, 4, 1, 0] rfl)
  have B58 : ∀ (x1 : Int32) (x2 : Int32) (s : Nat → Int32) (hd : Nat → Int32), xX8_apply_58 qs qz it x1 x2 s hd = some (r, s', hd') → ∀ (H : Heap) (locs : List Loc), va_P D vwCl (wModel k g s im fr hd nw hh qs qz it th hm ow lo) H → va_D (va_A (wModel k g s_0 im fr hd_0 nw hh qs qz it th hm ow lo) ss.heap.size) (wModel k g s im fr hd nw hh qs qz it th hm ow lo) → va_S (va_A (wModel k g s_0 im fr hd_0 nw hh qs qz it th hm ow lo) ss.heap.size) ss.heap H locs → ∀ ls : Array Slot, lv_has ls 7 [(0, .ref (g 0)), (1, .int x1), (2, .int x2)] → W pp l ee ({ frames := 8, cells := 0, slots := 0, locals := 180 } : Room) ss mm ([.ref (g 0), .int p1, .int p2, .int p3] : List Value).toArray bl me co H locs 0 0 (MQ bl (cQi D k (wModel k g s_0 im fr hd_0 nw hh qs qz it th hm ow lo) ss.heap.size r (wModel k g s' im fr hd' nw hh qs qz it th hm ow lo)) ([.ref (g 0), .int p1, .int p2, .int p3] : List Value).toArray ss 0 0 (va_A (wModel k g s_0 im fr hd_0 nw hh qs qz it th hm ow lo) ss.heap.size)) (F0 mm 58 ls []) := by
    intro x1 x2 s hd he H locs hP hD hS ls hl
    refine lv_aload_n hx hb dX8_apply_58 rfl (lv_at hl 0 rfl) ?_
    refine va_get (D := D) (ci := 8) (v := .ref (g 7)) (C := RX8) (T := TX8) (N := 13) hx hb hts iX8 hown hK hP 0 rfl rfl 9 (by decide) w1 (fun _ h9 => h9) rfl dX8_apply_59 ?_
    refine lv_iload_n hx hb dX8_apply_62 rfl (lv_at hl 2 rfl) ?_
    obtain ⟨h12, he⟩ := grd_i he
    refine va_iald hx hb hK hP 7 0 rfl rfl (ix_in h12) dX8_apply_63 ?_
    refine lv_iconst (v := (-1)) hx hb dX8_apply_64 (by decide) ?_
    refine lv_icmp_ne (tgt := 71) hx hb dX8_apply_65 (by decide) (fun c13 => ?_) (fun c13 => ?_)
    · have he := ifn he c13
      refine lv_iconst (v := 0) hx hb dX8_apply_71 (by decide) ?_
      refine lv_istore (lv' := [(5, .int 0), (0, .ref (g 0)), (1, .int x1), (2, .int x2)]) hx hb dX8_apply_72 hl (by decide) rfl (fun ls hl => ?_)
      refine lv_iconst (v := 0) hx hb dX8_apply_74 (by decide) ?_
      refine lv_istore (lv' := [(6, .int 0), (5, .int 0), (0, .ref (g 0)), (1, .int x1), (2, .int x2)]) hx hb dX8_apply_75 hl (by decide) rfl (fun ls hl => ?_)
      exact B77 600 x1 x2 0 0 s hd he H locs hP hD hS ls (lv_sub hl [2, 3, 4, 1, 0] rfl)
    · have he := ifp he c13
      refine lv_bipush (v := (-11)) hx hb dX8_apply_68 (by decide) ?_
      obtain ⟨rfl, rfl, rfl⟩ := some3 he
      exact cRi hx hb hr hlk hK rfl hP hD hS dX8_apply_70
  have hS0 := hS
  have key : ∀ (H : Heap) (locs : List Loc), H = ss.heap → locs = [] → va_P D vwCl (wModel k g s_0 im fr hd_0 nw hh qs qz it th hm ow lo) H → va_S (va_A (wModel k g s_0 im fr hd_0 nw hh qs qz it th hm ow lo) ss.heap.size) ss.heap H locs → W pp l ee ({ frames := 8, cells := 0, slots := 0, locals := 180 } : Room) ss mm ([.ref (g 0), .int p1, .int p2, .int p3] : List Value).toArray bl me co H locs 0 0 (MQ bl (cQi D k (wModel k g s_0 im fr hd_0 nw hh qs qz it th hm ow lo) ss.heap.size r (wModel k g s' im fr hd' nw hh qs qz it th hm ow lo)) ([.ref (g 0), .int p1, .int p2, .int p3] : List Value).toArray ss 0 0 (va_A (wModel k g s_0 im fr hd_0 nw hh qs qz it th hm ow lo) ss.heap.size)) (F0 mm 0 ls []) := by
    intro H locs _ _ hP hS
    refine lv_iload_n hx hb dX8_apply_0 rfl (lv_at hl 2 rfl) ?_
    obtain ⟨v1001, h1002, he⟩ := bn1_i he
    refine cSi (rest := []) ⟨hx, hb, hml, hown, hts⟩ hK hA hP hD hS (mX8_isSheet l D k h1002) (cwS 1 hts gX8_apply_X8_isSheet rfl rfl rfl kX8_isSheet ⟨Nat.le_of_ble_eq_true rfl, Nat.le_of_ble_eq_true rfl⟩) rfl hl.1 rfl (Nat.le_of_ble_eq_true rfl) ⟨Nat.le_refl 0, Nat.le_refl 0⟩ dX8_apply_1 (fun H locs hP hD hS => ?_)
    refine lv_if_eq (tgt := 16) hx hb dX8_apply_4 (by decide) (fun c1003 => ?_) (fun c1003 => ?_)
    · have he := ifp he c1003
      refine lv_bipush (v := (-2)) hx hb dX8_apply_16 (by decide) ?_
      obtain ⟨rfl, rfl, rfl⟩ := some3 he
      exact cRi hx hb hr hlk hK rfl hP hD hS dX8_apply_18
    · have he := ifn he c1003
      refine lv_iload_n hx hb dX8_apply_7 rfl (lv_at hl 3 rfl) ?_
      refine lv_iconst (v := 0) hx hb dX8_apply_8 (by decide) ?_
      refine lv_iconst (v := 1) hx hb dX8_apply_9 (by decide) ?_
      obtain ⟨v1004, h1005, he⟩ := bn1_i he
      refine cSi (rest := []) ⟨hx, hb, hml, hown, hts⟩ hK hA hP hD hS (mX8_in l D k h1005) (cwS 3 hts gX8_apply_X8_in rfl rfl rfl kX8_in ⟨Nat.le_of_ble_eq_true rfl, Nat.le_of_ble_eq_true rfl⟩) rfl hl.1 rfl (Nat.le_of_ble_eq_true rfl) ⟨Nat.le_refl 0, Nat.le_refl 0⟩ dX8_apply_10 (fun H locs hP hD hS => ?_)
      refine lv_if_ne (tgt := 19) hx hb dX8_apply_13 (by decide) (fun c1006 => ?_) (fun c1006 => ?_)
      · have he := ifn he c1006
        refine lv_aload_n hx hb dX8_apply_19 rfl (lv_at hl 0 rfl) ?_
        refine lv_iload_n hx hb dX8_apply_20 rfl (lv_at hl 1 rfl) ?_
        refine lv_iconst (v := 0) hx hb dX8_apply_21 (by decide) ?_
        obtain ⟨v1007, h1008, he⟩ := bn1_i he
        refine cVir (As := [.int p1, .int 0]) (rest := []) ⟨hx, hb, hml, hown, hts⟩ hK hA hP hD hS (mX8_asked l D k g (s := s_0) (im := im) (fr := fr) (hd := hd_0) (nw := nw) (hh := hh) (qs := qs) (qz := qz) (it := it) (th := th) (hm := hm) (ow := ow) (lo := lo) h1008) (cwV 2 hts gX8_apply_X8_asked rfl rfl rfl kX8_asked ⟨Nat.le_of_ble_eq_true rfl, Nat.le_of_ble_eq_true rfl⟩) [0, 1, 2, 3, 4, 5, 6, 7, 8, 9] rfl rfl 0 rfl rfl rfl hl.1 rfl (Nat.le_of_ble_eq_true rfl) ⟨Nat.le_refl 0, Nat.le_refl 0⟩ dX8_apply_22 (fun H locs hP hD hS => ?_)
        refine lv_istore (lv' := [(4, .int v1007), (0, .ref (g 0)), (1, .int p1), (2, .int p2), (3, .int p3)]) hx hb dX8_apply_25 hl (by decide) rfl (fun ls hl => ?_)
        refine lv_iload hx hb dX8_apply_27 (lv_at hl 0 rfl) ?_
        refine lv_if_eq (tgt := 35) hx hb dX8_apply_29 (by decide) (fun c1009 => ?_) (fun c1009 => ?_)
        · have he := ifp he c1009
          refine lv_aload_n hx hb dX8_apply_35 rfl (lv_at hl 1 rfl) ?_
          refine va_get (D := D) (ci := 8) (v := .ref (g 7)) (C := RX8) (T := TX8) (N := 13) hx hb hts iX8 hown hK hP 0 rfl rfl 9 (by decide) w1 (fun _ h9 => h9) rfl dX8_apply_36 ?_
          refine lv_iload_n hx hb dX8_apply_39 rfl (lv_at hl 3 rfl) ?_
          obtain ⟨h1010, he⟩ := grd_i he
          refine va_iald hx hb hK hP 7 0 rfl rfl (ix_in h1010) dX8_apply_40 ?_
          refine lv_iconst (v := (-1)) hx hb dX8_apply_41 (by decide) ?_
          refine lv_icmp_eq (tgt := 58) hx hb dX8_apply_42 (by decide) (fun c1011 => ?_) (fun c1011 => ?_)
          · have he := ifp he c1011
            exact B58 p1 p2 s_0 hd_0 he H locs hP hD hS ls (lv_sub hl [1, 2, 3] rfl)
          · have he := ifn he c1011
            refine lv_aload_n hx hb dX8_apply_45 rfl (lv_at hl 1 rfl) ?_
            refine va_get (D := D) (ci := 8) (v := .ref (g 7)) (C := RX8) (T := TX8) (N := 13) hx hb hts iX8 hown hK hP 0 rfl rfl 9 (by decide) w1 (fun _ h9 => h9) rfl dX8_apply_46 ?_
            refine lv_iload_n hx hb dX8_apply_49 rfl (lv_at hl 3 rfl) ?_
            obtain ⟨h1012, he⟩ := grd_i he
            refine va_iald hx hb hK hP 7 0 rfl rfl (ix_in h1012) dX8_apply_50 ?_
            refine lv_iload_n hx hb dX8_apply_51 rfl (lv_at hl 4 rfl) ?_
            refine lv_icmp_eq (tgt := 58) hx hb dX8_apply_52 (by decide) (fun c1013 => ?_) (fun c1013 => ?_)
            · have he := ifp he c1013
              exact B58 p1 p2 s_0 hd_0 he H locs hP hD hS ls (lv_sub hl [1, 2, 3] rfl)
            · have he := ifn he c1013
              refine lv_bipush (v := (-13)) hx hb dX8_apply_55 (by decide) ?_
              obtain ⟨rfl, rfl, rfl⟩ := some3 he
              exact cRi hx hb hr hlk hK rfl hP hD hS dX8_apply_57
        · have he := ifn he c1009
          refine lv_iload hx hb dX8_apply_32 (lv_at hl 0 rfl) ?_
          obtain ⟨rfl, rfl, rfl⟩ := some3 he
          exact cRi hx hb hr hlk hK rfl hP hD hS dX8_apply_34
      · have he := ifp he c1006
        refine lv_bipush (v := (-2)) hx hb dX8_apply_16 (by decide) ?_
        obtain ⟨rfl, rfl, rfl⟩ := some3 he
        exact cRi hx hb hr hlk hK rfl hP hD hS dX8_apply_18
  exact key ss.heap [] rfl rfl hP hS
theorem kX8_lots : yX8_lots.cls = RX8 ∧ yX8_lots.cls ≠ "java/lang/invoke/MethodHandle" ∧ yX8_lots.cls ≠ "java/lang/invoke/VarHandle" ∧ (parseMethodDescriptor yX8_lots.desc).map (fun d => d.parameters.length) = some 0 := by decide +kernel
set_option maxRecDepth 100000 in
set_option maxHeartbeats 4000000 in
theorem mX8_lots (l : Launch) (D : va_G) (k : Nat → ClassId) (g : Nat → Nat) {s : Nat → Int32} {im : Nat → Int32} {fr : Nat → Int32} {hd : Nat → Int32} {nw : Nat → Int32} {hh : Nat → Int32} {qs : Nat → Int32} {qz : Nat → Int32} {it : Nat → Int64} {th : Int32} {hm : Int32} {ow : Int32} {lo_0 : Int32}  {r : Int32} {lo' : Int32} (he : xX8_lots lo_0 = some (r, lo')) : CtI l D k yX8_lots wsX8_lots ({ frames := 0, cells := 0, slots := 0, locals := 0 } : Room) [.ref (g 0)] (wModel k g s im fr hd nw hh qs qz it th hm ow lo_0) r (wModel k g s im fr hd nw hh qs qz it th hm ow lo') := by
  intro sz9
  refine cSt (lv := [(0, .ref (g 0))]) (own := RX8) (cc := cX8_lots) (nL := 1) (ret := (some .int)) (by decide +kernel) rfl rfl (Nat.le_of_ble_eq_true rfl) rfl ?_
  intro pp ee ss mm bl me co hsz hC0 hP hD hS ls hl
  subst hsz
  obtain ⟨hx, hb, hr, hml, hown, hts, hK, hlk⟩ := hC0
  have hA : ∀ q, ss.heap.size ≤ q → va_A (wModel k g s im fr hd nw hh qs qz it th hm ow lo_0) ss.heap.size q := fun q h => Or.inr h
  have iX8 : ∀ w ∈ wsX80, w ∈ wsX8_lots := fun _ h => List.mem_cons_of_mem _ (List.mem_append_right _ h)
  have w1 := hts (.fieldLink RX8 173 "DeadListPoolModel" "lot" "I") (List.mem_of_getElem? (i := 1) rfl)
  have w2 := hts (.constant RX8 176 (1103515245)) (List.mem_of_getElem? (i := 2) rfl)
  have hS0 := hS
  have key : ∀ (H : Heap) (locs : List Loc), H = ss.heap → locs = [] → va_P D vwCl (wModel k g s im fr hd nw hh qs qz it th hm ow lo_0) H → va_S (va_A (wModel k g s im fr hd nw hh qs qz it th hm ow lo_0) ss.heap.size) ss.heap H locs → W pp l ee ({ frames := 0, cells := 0, slots := 0, locals := 0 } : Room) ss mm ([.ref (g 0)] : List Value).toArray bl me co H locs 0 0 (MQ bl (cQi D k (wModel k g s im fr hd nw hh qs qz it th hm ow lo_0) ss.heap.size r (wModel k g s im fr hd nw hh qs qz it th hm ow lo')) ([.ref (g 0)] : List Value).toArray ss 0 0 (va_A (wModel k g s im fr hd nw hh qs qz it th hm ow lo_0) ss.heap.size)) (F0 mm 0 ls []) := by
    intro H locs _ _ hP hS
    refine lv_aload_n hx hb dX8_lots_0 rfl (lv_at hl 0 rfl) ?_
    refine lv_aload_n hx hb dX8_lots_1 rfl (lv_at hl 0 rfl) ?_
    refine va_get (D := D) (ci := 8) (v := .int lo_0) (C := RX8) (T := TX8) (N := 13) hx hb hts iX8 hown hK hP 0 rfl rfl 12 (by decide) w1 (fun _ h9 => h9) rfl dX8_lots_2 ?_
    refine lv_ldc hx hb hown w2 dX8_lots_5 ?_
    refine lv_imul hx hb dX8_lots_7 ?_
    refine lv_sipush (v := 12345) hx hb dX8_lots_8 (by decide) ?_
    refine lv_iadd hx hb dX8_lots_11 ?_
    obtain ⟨lo1001, e1002, he⟩ := lt_i he
    refine va_put (D := D) (ci := 8) (v := .int ((lo_0 * 1103515245) + 12345)) (ty := .int) (C := RX8) (T := TX8) (N := 13) hx hb hts iX8 tyX8 tyX8_ok nmX8 hown hK hP hD hS 0 rfl rfl 12 (by decide) w1 (fun _ h9 => h9) rfl (by decide +kernel) rfl rfl (Nat.le_of_ble_eq_true rfl) dX8_lots_12 (fun H locs hP hD hS => ?_)
    have hP : va_P D vwCl (wModel k g s im fr hd nw hh qs qz it th hm ow lo1001) H := by rw [e1002]; exact hP
    have hD : va_D _ (wModel k g s im fr hd nw hh qs qz it th hm ow lo1001) := va_D_adr (by rw [e1002]; rfl) hD
    refine lv_aload_n hx hb dX8_lots_15 rfl (lv_at hl 0 rfl) ?_
    refine va_get (D := D) (ci := 8) (v := .int lo1001) (C := RX8) (T := TX8) (N := 13) hx hb hts iX8 hown hK hP 0 rfl rfl 12 (by decide) w1 (fun _ h9 => h9) rfl dX8_lots_16 ?_
    refine lv_bipush (v := 9) hx hb dX8_lots_19 (by decide) ?_
    refine lv_iushr (v := ((Int32.toUInt32 lo1001 >>> (Int32.toUInt32 9 &&& Int32.toUInt32 31)).toInt32)) hx hb dX8_lots_21 rfl ?_
    refine lv_bipush (v := 24) hx hb dX8_lots_22 (by decide) ?_
    refine lv_irem hx hb dX8_lots_24 (by decide) ?_
    obtain ⟨rfl, rfl⟩ := some2 he
    exact cRi hx hb hr hlk hK rfl hP hD hS dX8_lots_25
  exact key ss.heap [] rfl rfl hP hS
theorem kX8_draws : yX8_draws.cls = RX8 ∧ yX8_draws.cls ≠ "java/lang/invoke/MethodHandle" ∧ yX8_draws.cls ≠ "java/lang/invoke/VarHandle" ∧ (parseMethodDescriptor yX8_draws.desc).map (fun d => d.parameters.length) = some 3 := by decide +kernel
set_option maxRecDepth 100000 in
set_option maxHeartbeats 4000000 in
theorem mX8_draws (l : Launch) (D : va_G) (k : Nat → ClassId) (g : Nat → Nat) {s_0 : Nat → Int32} {im : Nat → Int32} {fr : Nat → Int32} {hd_0 : Nat → Int32} {nw : Nat → Int32} {hh : Nat → Int32} {qs : Nat → Int32} {qz : Nat → Int32} {it : Nat → Int64} {th : Int32} {hm : Int32} {ow : Int32} {lo : Int32} {p1 : Int32} {p2 : Int32} {p3 : Int32} {s' : Nat → Int32} {hd' : Nat → Int32} (he : xX8_draws s_0 hd_0 p1 p2 p3 = some (s', hd')) : CtV l D k yX8_draws wsX8_draws ({ frames := 8, cells := 0, slots := 0, locals := 179 } : Room) [.ref (g 0), .int p1, .int p2, .int p3] (wModel k g s_0 im fr hd_0 nw hh qs qz it th hm ow lo) (wModel k g s' im fr hd' nw hh qs qz it th hm ow lo) := by
  intro sz9
  refine cSt (lv := [(0, .ref (g 0)), (1, .int p1), (2, .int p2), (3, .int p3)]) (own := RX8) (cc := cX8_draws) (nL := 5) (ret := none) (by decide +kernel) rfl rfl (Nat.le_of_ble_eq_true rfl) rfl ?_
  intro pp ee ss mm bl me co hsz hC0 hP hD hS ls hl
  subst hsz
  obtain ⟨hx, hb, hr, hml, hown, hts, hK, hlk⟩ := hC0
  have hA : ∀ q, ss.heap.size ≤ q → va_A (wModel k g s_0 im fr hd_0 nw hh qs qz it th hm ow lo) ss.heap.size q := fun q h => Or.inr h
  have hS0 := hS
  have key : ∀ (H : Heap) (locs : List Loc), H = ss.heap → locs = [] → va_P D vwCl (wModel k g s_0 im fr hd_0 nw hh qs qz it th hm ow lo) H → va_S (va_A (wModel k g s_0 im fr hd_0 nw hh qs qz it th hm ow lo) ss.heap.size) ss.heap H locs → W pp l ee ({ frames := 8, cells := 0, slots := 0, locals := 179 } : Room) ss mm ([.ref (g 0), .int p1, .int p2, .int p3] : List Value).toArray bl me co H locs 0 0 (MQ bl (cQv D k (wModel k g s_0 im fr hd_0 nw hh qs qz it th hm ow lo) ss.heap.size (wModel k g s' im fr hd' nw hh qs qz it th hm ow lo)) ([.ref (g 0), .int p1, .int p2, .int p3] : List Value).toArray ss 0 0 (va_A (wModel k g s_0 im fr hd_0 nw hh qs qz it th hm ow lo) ss.heap.size)) (F0 mm 0 ls []) := by
    intro H locs _ _ hP hS
    refine lv_iload_n hx hb dX8_draws_0 rfl (lv_at hl 2 rfl) ?_
    refine lv_bipush (v := 20) hx hb dX8_draws_1 (by decide) ?_
    refine lv_irem hx hb dX8_draws_3 (by decide) ?_
    refine lv_istore (lv' := [(4, .int (p2 - p2 / 20 * 20)), (0, .ref (g 0)), (1, .int p1), (2, .int p2), (3, .int p3)]) hx hb dX8_draws_4 hl (by decide) rfl (fun ls hl => ?_)
    refine lv_iload_n hx hb dX8_draws_6 rfl (lv_at hl 2 rfl) ?_
    refine lv_bipush (v := 8) hx hb dX8_draws_7 (by decide) ?_
    refine lv_icmp_ge (tgt := 29) hx hb dX8_draws_9 (by decide) (fun c1001 => ?_) (fun c1001 => ?_)
    · have he := ifp he c1001
      refine lv_iload_n hx hb dX8_draws_29 rfl (lv_at hl 2 rfl) ?_
      refine lv_bipush (v := 11) hx hb dX8_draws_30 (by decide) ?_
      refine lv_icmp_ge (tgt := 49) hx hb dX8_draws_32 (by decide) (fun c1002 => ?_) (fun c1002 => ?_)
      · have he := ifp he c1002
        refine lv_iload_n hx hb dX8_draws_49 rfl (lv_at hl 2 rfl) ?_
        refine lv_bipush (v := 15) hx hb dX8_draws_50 (by decide) ?_
        refine lv_icmp_ge (tgt := 69) hx hb dX8_draws_52 (by decide) (fun c1003 => ?_) (fun c1003 => ?_)
        · have he := ifp he c1003
          refine lv_iload_n hx hb dX8_draws_69 rfl (lv_at hl 2 rfl) ?_
          refine lv_bipush (v := 19) hx hb dX8_draws_70 (by decide) ?_
          refine lv_icmp_ge (tgt := 85) hx hb dX8_draws_72 (by decide) (fun c1004 => ?_) (fun c1004 => ?_)
          · have he := ifp he c1004
            refine lv_iload_n hx hb dX8_draws_85 rfl (lv_at hl 2 rfl) ?_
            refine lv_bipush (v := 21) hx hb dX8_draws_86 (by decide) ?_
            refine lv_icmp_ge (tgt := 101) hx hb dX8_draws_88 (by decide) (fun c1005 => ?_) (fun c1005 => ?_)
            · have he := ifp he c1005
              refine lv_iload_n hx hb dX8_draws_101 rfl (lv_at hl 2 rfl) ?_
              refine lv_bipush (v := 21) hx hb dX8_draws_102 (by decide) ?_
              refine lv_icmp_ne (tgt := 117) hx hb dX8_draws_104 (by decide) (fun c1006 => ?_) (fun c1006 => ?_)
              · have he := ifn he c1006
                refine lv_iload_n hx hb dX8_draws_117 rfl (lv_at hl 2 rfl) ?_
                refine lv_bipush (v := 22) hx hb dX8_draws_118 (by decide) ?_
                refine lv_icmp_ne (tgt := 133) hx hb dX8_draws_120 (by decide) (fun c1007 => ?_) (fun c1007 => ?_)
                · have he := ifn he c1007
                  refine lv_aload_n hx hb dX8_draws_133 rfl (lv_at hl 1 rfl) ?_
                  refine lv_iconst (v := (-1)) hx hb dX8_draws_134 (by decide) ?_
                  obtain ⟨v1008, s1009, h1010, he⟩ := bn2_i he
                  refine cVi (wf := (wModel k g s1009 im fr hd_0 nw hh qs qz it th hm ow lo)) (As := [.int (-1)]) (rest := []) ⟨hx, hb, hml, hown, hts⟩ hK hA hP hD hS (mX8_files l D k g (s_0 := s_0) (im := im) (fr := fr) (hd := hd_0) (nw := nw) (hh := hh) (qs := qs) (qz := qz) (it := it) (th := th) (hm := hm) (ow := ow) (lo := lo) h1010) (cwV 1 hts gX8_draws_X8_files rfl rfl rfl kX8_files ⟨Nat.le_of_ble_eq_true rfl, Nat.le_of_ble_eq_true rfl⟩) [0, 1, 2, 3, 4, 5, 6, 7, 8, 9] rfl rfl rfl [false, false, false, false, false, false, false, false, false, false] trivial 10 rfl (by decide +kernel) rfl 0 rfl rfl rfl hl.1 rfl (Nat.le_of_ble_eq_true rfl) ⟨Nat.le_refl 0, Nat.le_refl 0⟩ dX8_draws_135 (fun H locs hP hD hS => ?_)
                  refine lv_pop hx hb dX8_draws_138 rfl ?_
                  obtain ⟨rfl, rfl⟩ := some2 he
                  exact cRv hx hb hr hlk hK hP hD hS dX8_draws_139
                · have he := ifp he c1007
                  refine lv_aload_n hx hb dX8_draws_123 rfl (lv_at hl 1 rfl) ?_
                  refine lv_iload hx hb dX8_draws_124 (lv_at hl 0 rfl) ?_
                  obtain ⟨v1011, s1012, hd1013, h1014, he⟩ := bn3_i he
                  refine cVi (wf := (wModel k g s1012 im fr hd1013 nw hh qs qz it th hm ow lo)) (As := [.int (p2 - p2 / 20 * 20)]) (rest := []) ⟨hx, hb, hml, hown, hts⟩ hK hA hP hD hS (mX8_rollback l D k g (s_0 := s_0) (im := im) (fr := fr) (hd_0 := hd_0) (nw := nw) (hh := hh) (qs := qs) (qz := qz) (it := it) (th := th) (hm := hm) (ow := ow) (lo := lo) h1014) (cwV 1 hts gX8_draws_X8_rollback rfl rfl rfl kX8_rollback ⟨Nat.le_of_ble_eq_true rfl, Nat.le_of_ble_eq_true rfl⟩) [0, 1, 2, 3, 4, 5, 6, 7, 8, 9] rfl rfl rfl [false, false, false, false, false, false, false, false, false, false] trivial 10 rfl (by decide +kernel) rfl 0 rfl rfl rfl hl.1 rfl (Nat.le_of_ble_eq_true rfl) ⟨Nat.le_refl 0, Nat.le_refl 0⟩ dX8_draws_126 (fun H locs hP hD hS => ?_)
                  refine lv_pop hx hb dX8_draws_129 rfl ?_
                  refine lv_goto (tgt := 139) hx hb dX8_draws_130 (by decide) ?_
                  obtain ⟨rfl, rfl⟩ := some2 he
                  exact cRv hx hb hr hlk hK hP hD hS dX8_draws_139
              · have he := ifp he c1006
                refine lv_aload_n hx hb dX8_draws_107 rfl (lv_at hl 1 rfl) ?_
                refine lv_iload hx hb dX8_draws_108 (lv_at hl 0 rfl) ?_
                obtain ⟨v1015, s1016, h1017, he⟩ := bn2_i he
                refine cVi (wf := (wModel k g s1016 im fr hd_0 nw hh qs qz it th hm ow lo)) (As := [.int (p2 - p2 / 20 * 20)]) (rest := []) ⟨hx, hb, hml, hown, hts⟩ hK hA hP hD hS (mX8_promote l D k g (s_0 := s_0) (im := im) (fr := fr) (hd := hd_0) (nw := nw) (hh := hh) (qs := qs) (qz := qz) (it := it) (th := th) (hm := hm) (ow := ow) (lo := lo) h1017) (cwV 1 hts gX8_draws_X8_promote rfl rfl rfl kX8_promote ⟨Nat.le_of_ble_eq_true rfl, Nat.le_of_ble_eq_true rfl⟩) [0, 1, 2, 3, 4, 5, 6, 7, 8, 9] rfl rfl rfl [false, false, false, false, false, false, false, false, false, false] trivial 10 rfl (by decide +kernel) rfl 0 rfl rfl rfl hl.1 rfl (Nat.le_of_ble_eq_true rfl) ⟨Nat.le_refl 0, Nat.le_refl 0⟩ dX8_draws_110 (fun H locs hP hD hS => ?_)
                refine lv_pop hx hb dX8_draws_113 rfl ?_
                refine lv_goto (tgt := 139) hx hb dX8_draws_114 (by decide) ?_
                obtain ⟨rfl, rfl⟩ := some2 he
                exact cRv hx hb hr hlk hK hP hD hS dX8_draws_139
            · have he := ifn he c1005
              refine lv_aload_n hx hb dX8_draws_91 rfl (lv_at hl 1 rfl) ?_
              refine lv_iload hx hb dX8_draws_92 (lv_at hl 0 rfl) ?_
              obtain ⟨v1018, s1019, h1020, he⟩ := bn2_i he
              refine cVi (wf := (wModel k g s1019 im fr hd_0 nw hh qs qz it th hm ow lo)) (As := [.int (p2 - p2 / 20 * 20)]) (rest := []) ⟨hx, hb, hml, hown, hts⟩ hK hA hP hD hS (mX8_fork l D k g (s_0 := s_0) (im := im) (fr := fr) (hd := hd_0) (nw := nw) (hh := hh) (qs := qs) (qz := qz) (it := it) (th := th) (hm := hm) (ow := ow) (lo := lo) h1020) (cwV 1 hts gX8_draws_X8_fork rfl rfl rfl kX8_fork ⟨Nat.le_of_ble_eq_true rfl, Nat.le_of_ble_eq_true rfl⟩) [0, 1, 2, 3, 4, 5, 6, 7, 8, 9] rfl rfl rfl [false, false, false, false, false, false, false, false, false, false] trivial 10 rfl (by decide +kernel) rfl 0 rfl rfl rfl hl.1 rfl (Nat.le_of_ble_eq_true rfl) ⟨Nat.le_refl 0, Nat.le_refl 0⟩ dX8_draws_94 (fun H locs hP hD hS => ?_)
              refine lv_pop hx hb dX8_draws_97 rfl ?_
              refine lv_goto (tgt := 139) hx hb dX8_draws_98 (by decide) ?_
              obtain ⟨rfl, rfl⟩ := some2 he
              exact cRv hx hb hr hlk hK hP hD hS dX8_draws_139
          · have he := ifn he c1004
            refine lv_aload_n hx hb dX8_draws_75 rfl (lv_at hl 1 rfl) ?_
            refine lv_iload hx hb dX8_draws_76 (lv_at hl 0 rfl) ?_
            obtain ⟨v1021, s1022, hd1023, h1024, he⟩ := bn3_i he
            refine cVi (wf := (wModel k g s1022 im fr hd1023 nw hh qs qz it th hm ow lo)) (As := [.int (p2 - p2 / 20 * 20)]) (rest := []) ⟨hx, hb, hml, hown, hts⟩ hK hA hP hD hS (mX8_remove l D k g (s_0 := s_0) (im := im) (fr := fr) (hd_0 := hd_0) (nw := nw) (hh := hh) (qs := qs) (qz := qz) (it := it) (th := th) (hm := hm) (ow := ow) (lo := lo) h1024) (cwV 1 hts gX8_draws_X8_remove rfl rfl rfl kX8_remove ⟨Nat.le_of_ble_eq_true rfl, Nat.le_of_ble_eq_true rfl⟩) [0, 1, 2, 3, 4, 5, 6, 7, 8, 9] rfl rfl rfl [false, false, false, false, false, false, false, false, false, false] trivial 10 rfl (by decide +kernel) rfl 0 rfl rfl rfl hl.1 rfl (Nat.le_of_ble_eq_true rfl) ⟨Nat.le_refl 0, Nat.le_refl 0⟩ dX8_draws_78 (fun H locs hP hD hS => ?_)
            refine lv_pop hx hb dX8_draws_81 rfl ?_
            refine lv_goto (tgt := 139) hx hb dX8_draws_82 (by decide) ?_
            obtain ⟨rfl, rfl⟩ := some2 he
            exact cRv hx hb hr hlk hK hP hD hS dX8_draws_139
        · have he := ifn he c1003
          refine lv_aload_n hx hb dX8_draws_55 rfl (lv_at hl 1 rfl) ?_
          refine lv_iload hx hb dX8_draws_56 (lv_at hl 0 rfl) ?_
          refine lv_iload_n hx hb dX8_draws_58 rfl (lv_at hl 4 rfl) ?_
          refine lv_bipush (v := 20) hx hb dX8_draws_59 (by decide) ?_
          refine lv_idiv hx hb dX8_draws_61 (by decide) ?_
          obtain ⟨v1025, s1026, h1027, he⟩ := bn2_i he
          refine cVi (wf := (wModel k g s1026 im fr hd_0 nw hh qs qz it th hm ow lo)) (As := [.int (p2 - p2 / 20 * 20), .int (p3 / 20)]) (rest := []) ⟨hx, hb, hml, hown, hts⟩ hK hA hP hD hS (mX8_snap l D k g (s_0 := s_0) (im := im) (fr := fr) (hd := hd_0) (nw := nw) (hh := hh) (qs := qs) (qz := qz) (it := it) (th := th) (hm := hm) (ow := ow) (lo := lo) h1027) (cwV 2 hts gX8_draws_X8_snap rfl rfl rfl kX8_snap ⟨Nat.le_of_ble_eq_true rfl, Nat.le_of_ble_eq_true rfl⟩) [0, 1, 2, 3, 4, 5, 6, 7, 8, 9] rfl rfl rfl [false, false, false, false, false, false, false, false, false, false] trivial 10 rfl (by decide +kernel) rfl 0 rfl rfl rfl hl.1 rfl (Nat.le_of_ble_eq_true rfl) ⟨Nat.le_refl 0, Nat.le_refl 0⟩ dX8_draws_62 (fun H locs hP hD hS => ?_)
          refine lv_pop hx hb dX8_draws_65 rfl ?_
          refine lv_goto (tgt := 139) hx hb dX8_draws_66 (by decide) ?_
          obtain ⟨rfl, rfl⟩ := some2 he
          exact cRv hx hb hr hlk hK hP hD hS dX8_draws_139
      · have he := ifn he c1002
        refine lv_aload_n hx hb dX8_draws_35 rfl (lv_at hl 1 rfl) ?_
        refine lv_iload hx hb dX8_draws_36 (lv_at hl 0 rfl) ?_
        refine lv_iload_n hx hb dX8_draws_38 rfl (lv_at hl 4 rfl) ?_
        refine lv_bipush (v := 12) hx hb dX8_draws_39 (by decide) ?_
        refine lv_irem hx hb dX8_draws_41 (by decide) ?_
        obtain ⟨v1028, s1029, hd1030, h1031, he⟩ := bn3_i he
        refine cVi (wf := (wModel k g s1029 im fr hd1030 nw hh qs qz it th hm ow lo)) (As := [.int (p2 - p2 / 20 * 20), .int (p3 - p3 / 12 * 12)]) (rest := []) ⟨hx, hb, hml, hown, hts⟩ hK hA hP hD hS (mX8_erase l D k g (s_0 := s_0) (im := im) (fr := fr) (hd_0 := hd_0) (nw := nw) (hh := hh) (qs := qs) (qz := qz) (it := it) (th := th) (hm := hm) (ow := ow) (lo := lo) h1031) (cwV 2 hts gX8_draws_X8_erase rfl rfl rfl kX8_erase ⟨Nat.le_of_ble_eq_true rfl, Nat.le_of_ble_eq_true rfl⟩) [0, 1, 2, 3, 4, 5, 6, 7, 8, 9] rfl rfl rfl [false, false, false, false, false, false, false, false, false, false] trivial 10 rfl (by decide +kernel) rfl 0 rfl rfl rfl hl.1 rfl (Nat.le_of_ble_eq_true rfl) ⟨Nat.le_refl 0, Nat.le_refl 0⟩ dX8_draws_42 (fun H locs hP hD hS => ?_)
        refine lv_pop hx hb dX8_draws_45 rfl ?_
        refine lv_goto (tgt := 139) hx hb dX8_draws_46 (by decide) ?_
        obtain ⟨rfl, rfl⟩ := some2 he
        exact cRv hx hb hr hlk hK hP hD hS dX8_draws_139
    · have he := ifn he c1001
      refine lv_aload_n hx hb dX8_draws_12 rfl (lv_at hl 1 rfl) ?_
      refine lv_iload hx hb dX8_draws_13 (lv_at hl 0 rfl) ?_
      refine lv_iload_n hx hb dX8_draws_15 rfl (lv_at hl 4 rfl) ?_
      refine lv_bipush (v := 12) hx hb dX8_draws_16 (by decide) ?_
      refine lv_irem hx hb dX8_draws_18 (by decide) ?_
      refine lv_iconst (v := 1) hx hb dX8_draws_19 (by decide) ?_
      refine lv_iload_n hx hb dX8_draws_20 rfl (lv_at hl 3 rfl) ?_
      refine lv_iadd hx hb dX8_draws_21 ?_
      obtain ⟨v1032, s1033, hd1034, h1035, he⟩ := bn3_i he
      refine cVi (wf := (wModel k g s1033 im fr hd1034 nw hh qs qz it th hm ow lo)) (As := [.int (p2 - p2 / 20 * 20), .int (p3 - p3 / 12 * 12), .int (1 + p2)]) (rest := []) ⟨hx, hb, hml, hown, hts⟩ hK hA hP hD hS (mX8_write l D k g (s_0 := s_0) (im := im) (fr := fr) (hd_0 := hd_0) (nw := nw) (hh := hh) (qs := qs) (qz := qz) (it := it) (th := th) (hm := hm) (ow := ow) (lo := lo) h1035) (cwV 3 hts gX8_draws_X8_write rfl rfl rfl kX8_write ⟨Nat.le_of_ble_eq_true rfl, Nat.le_of_ble_eq_true rfl⟩) [0, 1, 2, 3, 4, 5, 6, 7, 8, 9] rfl rfl rfl [false, false, false, false, false, false, false, false, false, false] trivial 10 rfl (by decide +kernel) rfl 0 rfl rfl rfl hl.1 rfl (Nat.le_of_ble_eq_true rfl) ⟨Nat.le_refl 0, Nat.le_refl 0⟩ dX8_draws_22 (fun H locs hP hD hS => ?_)
      refine lv_pop hx hb dX8_draws_25 rfl ?_
      refine lv_goto (tgt := 139) hx hb dX8_draws_26 (by decide) ?_
      obtain ⟨rfl, rfl⟩ := some2 he
      exact cRv hx hb hr hlk hK hP hD hS dX8_draws_139
  exact key ss.heap [] rfl rfl hP hS
theorem kX8_things : yX8_things.cls = RX8 ∧ yX8_things.cls ≠ "java/lang/invoke/MethodHandle" ∧ yX8_things.cls ≠ "java/lang/invoke/VarHandle" ∧ (parseMethodDescriptor yX8_things.desc).map (fun d => d.parameters.length) = some 0 := by decide +kernel
set_option maxRecDepth 100000 in
set_option maxHeartbeats 4000000 in
theorem mX8_things (l : Launch) (D : va_G) (k : Nat → ClassId) (g : Nat → Nat) {s : Nat → Int32} {im : Nat → Int32} {fr : Nat → Int32} {hd : Nat → Int32} {nw : Nat → Int32} {hh : Nat → Int32} {qs : Nat → Int32} {qz : Nat → Int32} {it : Nat → Int64} {th : Int32} {hm : Int32} {ow : Int32} {lo : Int32}  {r : Int32}  (he : xX8_things s = some r) : CtI l D k yX8_things wsX8_things ({ frames := 2, cells := 0, slots := 0, locals := 43 } : Room) [.ref (g 0)] (wModel k g s im fr hd nw hh qs qz it th hm ow lo) r (wModel k g s im fr hd nw hh qs qz it th hm ow lo) := by
  intro sz9
  refine cSt (lv := [(0, .ref (g 0))]) (own := RX8) (cc := cX8_things) (nL := 3) (ret := (some .int)) (by decide +kernel) rfl rfl (Nat.le_of_ble_eq_true rfl) rfl ?_
  intro pp ee ss mm bl me co hsz hC0 hP hD hS ls hl
  subst hsz
  obtain ⟨hx, hb, hr, hml, hown, hts, hK, hlk⟩ := hC0
  have hA : ∀ q, ss.heap.size ≤ q → va_A (wModel k g s im fr hd nw hh qs qz it th hm ow lo) ss.heap.size q := fun q h => Or.inr h
  have B4 : ∀ (n4 : Nat) (x1 : Int32) (x2 : Int32), xX8_things_4 s n4 x1 x2 = some r → ∀ (H : Heap) (locs : List Loc), va_P D vwCl (wModel k g s im fr hd nw hh qs qz it th hm ow lo) H → va_D (va_A (wModel k g s im fr hd nw hh qs qz it th hm ow lo) ss.heap.size) (wModel k g s im fr hd nw hh qs qz it th hm ow lo) → va_S (va_A (wModel k g s im fr hd nw hh qs qz it th hm ow lo) ss.heap.size) ss.heap H locs → ∀ ls : Array Slot, lv_has ls 3 [(0, .ref (g 0)), (1, .int x1), (2, .int x2)] → W pp l ee ({ frames := 2, cells := 0, slots := 0, locals := 43 } : Room) ss mm ([.ref (g 0)] : List Value).toArray bl me co H locs 0 0 (MQ bl (cQi D k (wModel k g s im fr hd nw hh qs qz it th hm ow lo) ss.heap.size r (wModel k g s im fr hd nw hh qs qz it th hm ow lo)) ([.ref (g 0)] : List Value).toArray ss 0 0 (va_A (wModel k g s im fr hd nw hh qs qz it th hm ow lo) ss.heap.size)) (F0 mm 4 ls []) := by
    intro n4
    induction n4 with
    | zero =>
      intro x1 x2 he
      exact absurd (show (none : Option (Int32)) = some r from he) (by simp)
    | succ n4 ih4 =>
      intro x1 x2 he H locs hP hD hS ls hl
      refine lv_iload_n hx hb dX8_things_4 rfl (lv_at hl 2 rfl) ?_
      refine lv_bipush (v := 20) hx hb dX8_things_5 (by decide) ?_
      refine lv_icmp_ge (tgt := 32) hx hb dX8_things_7 (by decide) (fun c1 => ?_) (fun c1 => ?_)
      · have he := ifp he c1
        refine lv_iload_n hx hb dX8_things_32 rfl (lv_at hl 1 rfl) ?_
        obtain rfl := some1 he
        exact cRi hx hb hr hlk hK rfl hP hD hS dX8_things_33
      · have he := ifn he c1
        refine lv_iload_n hx hb dX8_things_10 rfl (lv_at hl 1 rfl) ?_
        refine lv_aload_n hx hb dX8_things_11 rfl (lv_at hl 0 rfl) ?_
        refine lv_iload_n hx hb dX8_things_12 rfl (lv_at hl 2 rfl) ?_
        obtain ⟨v2, h3, he⟩ := bn1_i he
        refine cVir (As := [.int x2]) (rest := [.int x1]) ⟨hx, hb, hml, hown, hts⟩ hK hA hP hD hS (mX8_isThing l D k g (s := s) (im := im) (fr := fr) (hd := hd) (nw := nw) (hh := hh) (qs := qs) (qz := qz) (it := it) (th := th) (hm := hm) (ow := ow) (lo := lo) h3) (cwV 1 hts gX8_things_X8_isThing rfl rfl rfl kX8_isThing ⟨Nat.le_of_ble_eq_true rfl, Nat.le_of_ble_eq_true rfl⟩) [0, 1, 2, 3, 4, 5, 6, 7, 8, 9] rfl rfl 0 rfl rfl rfl hl.1 rfl (Nat.le_of_ble_eq_true rfl) ⟨Nat.le_refl 0, Nat.le_refl 0⟩ dX8_things_13 (fun H locs hP hD hS => ?_)
        refine lv_if_eq (tgt := 23) hx hb dX8_things_16 (by decide) (fun c4 => ?_) (fun c4 => ?_)
        · have he := ifp he c4
          refine lv_iconst (v := 0) hx hb dX8_things_23 (by decide) ?_
          refine lv_iadd hx hb dX8_things_24 ?_
          refine lv_istore_n (lv' := [(1, .int (x1 + 0)), (0, .ref (g 0)), (2, .int x2)]) hx hb dX8_things_25 rfl hl (by decide) rfl (fun ls hl => ?_)
          refine lv_iinc (v := (x2 + 1)) (lv' := [(2, .int (x2 + 1)), (1, .int (x1 + 0)), (0, .ref (g 0))]) hx hb dX8_things_26 hl (k := 2) rfl rfl (by decide) rfl (fun ls hl => ?_)
          refine lv_goto (tgt := 4) hx hb dX8_things_29 (by decide) ?_
          exact ih4 (x1 + 0) (x2 + 1) he H locs hP hD hS ls (lv_sub hl [2, 1, 0] rfl)
        · have he := ifn he c4
          refine lv_iconst (v := 1) hx hb dX8_things_19 (by decide) ?_
          refine lv_goto (tgt := 24) hx hb dX8_things_20 (by decide) ?_
          refine lv_iadd hx hb dX8_things_24 ?_
          refine lv_istore_n (lv' := [(1, .int (x1 + 1)), (0, .ref (g 0)), (2, .int x2)]) hx hb dX8_things_25 rfl hl (by decide) rfl (fun ls hl => ?_)
          refine lv_iinc (v := (x2 + 1)) (lv' := [(2, .int (x2 + 1)), (1, .int (x1 + 1)), (0, .ref (g 0))]) hx hb dX8_things_26 hl (k := 2) rfl rfl (by decide) rfl (fun ls hl => ?_)
          refine lv_goto (tgt := 4) hx hb dX8_things_29 (by decide) ?_
          exact ih4 (x1 + 1) (x2 + 1) he H locs hP hD hS ls (lv_sub hl [2, 1, 0] rfl)
  have hS0 := hS
  have key : ∀ (H : Heap) (locs : List Loc), H = ss.heap → locs = [] → va_P D vwCl (wModel k g s im fr hd nw hh qs qz it th hm ow lo) H → va_S (va_A (wModel k g s im fr hd nw hh qs qz it th hm ow lo) ss.heap.size) ss.heap H locs → W pp l ee ({ frames := 2, cells := 0, slots := 0, locals := 43 } : Room) ss mm ([.ref (g 0)] : List Value).toArray bl me co H locs 0 0 (MQ bl (cQi D k (wModel k g s im fr hd nw hh qs qz it th hm ow lo) ss.heap.size r (wModel k g s im fr hd nw hh qs qz it th hm ow lo)) ([.ref (g 0)] : List Value).toArray ss 0 0 (va_A (wModel k g s im fr hd nw hh qs qz it th hm ow lo) ss.heap.size)) (F0 mm 0 ls []) := by
    intro H locs _ _ hP hS
    refine lv_iconst (v := 0) hx hb dX8_things_0 (by decide) ?_
    refine lv_istore_n (lv' := [(1, .int 0), (0, .ref (g 0))]) hx hb dX8_things_1 rfl hl (by decide) rfl (fun ls hl => ?_)
    refine lv_iconst (v := 0) hx hb dX8_things_2 (by decide) ?_
    refine lv_istore_n (lv' := [(2, .int 0), (1, .int 0), (0, .ref (g 0))]) hx hb dX8_things_3 rfl hl (by decide) rfl (fun ls hl => ?_)
    exact B4 600 0 0 he H locs hP hD hS ls (lv_sub hl [2, 1, 0] rfl)
  exact key ss.heap [] rfl rfl hP hS
theorem kX8_drawn : yX8_drawn.cls = RX8 ∧ yX8_drawn.cls ≠ "java/lang/invoke/MethodHandle" ∧ yX8_drawn.cls ≠ "java/lang/invoke/VarHandle" ∧ (parseMethodDescriptor yX8_drawn.desc).map (fun d => d.parameters.length) = some 3 := by decide +kernel
set_option maxRecDepth 100000 in
set_option maxHeartbeats 4000000 in
theorem mX8_drawn (l : Launch) (D : va_G) (k : Nat → ClassId) (g : Nat → Nat) {s_0 : Nat → Int32} {im : Nat → Int32} {fr_0 : Nat → Int32} {hd_0 : Nat → Int32} {nw : Nat → Int32} {hh : Nat → Int32} {qs : Nat → Int32} {qz : Nat → Int32} {it : Nat → Int64} {th : Int32} {hm : Int32} {ow : Int32} {lo_0 : Int32} {p1 : Int32} {p2 : Int32} {p3 : Int32} {r : Int64} {s' : Nat → Int32} {fr' : Nat → Int32} {hd' : Nat → Int32} {lo' : Int32} (he : xX8_drawn s_0 fr_0 hd_0 lo_0 p1 p2 p3 = some (r, s', fr', hd', lo')) : CtL l D k yX8_drawn wsX8_drawn ({ frames := 9, cells := 0, slots := 0, locals := 203 } : Room) [.ref (g 0), .int p1, .int p2, .int p3] (wModel k g s_0 im fr_0 hd_0 nw hh qs qz it th hm ow lo_0) r (wModel k g s' im fr' hd' nw hh qs qz it th hm ow lo') := by
  intro sz9
  refine cSt (lv := [(0, .ref (g 0)), (1, .int p1), (2, .int p2), (3, .int p3)]) (own := RX8) (cc := cX8_drawn) (nL := 9) (ret := (some .long)) (by decide +kernel) rfl rfl (Nat.le_of_ble_eq_true rfl) rfl ?_
  intro pp ee ss mm bl me co hsz hC0 hP hD hS ls hl
  subst hsz
  obtain ⟨hx, hb, hr, hml, hown, hts, hK, hlk⟩ := hC0
  have hA : ∀ q, ss.heap.size ≤ q → va_A (wModel k g s_0 im fr_0 hd_0 nw hh qs qz it th hm ow lo_0) ss.heap.size q := fun q h => Or.inr h
  have iX8 : ∀ w ∈ wsX80, w ∈ wsX8_drawn := fun _ h => List.mem_cons_of_mem _ (List.mem_append_right _ h)
  have w3 := hts (.fieldLink RX8 7 "DeadListPoolModel" "s" "[I") (List.mem_of_getElem? (i := 3) rfl)
  have w2 := hts (.fieldLink RX8 16 "DeadListPoolModel" "frame" "[I") (List.mem_of_getElem? (i := 2) rfl)
  have w4 := hts (.fieldLink RX8 173 "DeadListPoolModel" "lot" "I") (List.mem_of_getElem? (i := 4) rfl)
  have w1 := hts (.constantLong RX8 134 (-4611686018427387904)) (List.mem_of_getElem? (i := 1) rfl)
  have B192 : ∀ (n192 : Nat) (x6 : Int64) (x8 : Int32) (s : Nat → Int32) (fr : Nat → Int32) (hd : Nat → Int32) (lo : Int32), xX8_drawn_192 n192 x6 x8 s fr hd lo = some (r, s', fr', hd', lo') → ∀ (H : Heap) (locs : List Loc), va_P D vwCl (wModel k g s im fr hd nw hh qs qz it th hm ow lo) H → va_D (va_A (wModel k g s_0 im fr_0 hd_0 nw hh qs qz it th hm ow lo_0) ss.heap.size) (wModel k g s im fr hd nw hh qs qz it th hm ow lo) → va_S (va_A (wModel k g s_0 im fr_0 hd_0 nw hh qs qz it th hm ow lo_0) ss.heap.size) ss.heap H locs → ∀ ls : Array Slot, lv_has ls 9 [(0, .ref (g 0)), (6, .long x6), (8, .int x8)] → W pp l ee ({ frames := 9, cells := 0, slots := 0, locals := 203 } : Room) ss mm ([.ref (g 0), .int p1, .int p2, .int p3] : List Value).toArray bl me co H locs 0 0 (MQ bl (cQl D k (wModel k g s_0 im fr_0 hd_0 nw hh qs qz it th hm ow lo_0) ss.heap.size r (wModel k g s' im fr' hd' nw hh qs qz it th hm ow lo')) ([.ref (g 0), .int p1, .int p2, .int p3] : List Value).toArray ss 0 0 (va_A (wModel k g s_0 im fr_0 hd_0 nw hh qs qz it th hm ow lo_0) ss.heap.size)) (F0 mm 192 ls []) := by
    intro n192
    induction n192 with
    | zero =>
      intro x6 x8 s fr hd lo he
      exact absurd (show (none : Option (Int64 × (Nat → Int32) × (Nat → Int32) × (Nat → Int32) × Int32)) = some (r, s', fr', hd', lo') from he) (by simp)
    | succ n192 ih192 =>
      intro x6 x8 s fr hd lo he H locs hP hD hS ls hl
      refine lv_iload hx hb dX8_drawn_192 (lv_at hl 2 rfl) ?_
      refine lv_sipush (v := 554) hx hb dX8_drawn_194 (by decide) ?_
      refine lv_icmp_ge (tgt := 220) hx hb dX8_drawn_197 (by decide) (fun c1 => ?_) (fun c1 => ?_)
      · have he := ifp he c1
        refine lv_lload hx hb dX8_drawn_220 (lv_at hl 1 rfl) ?_
        obtain ⟨rfl, rfl, rfl, rfl, rfl⟩ := some5 he
        exact cRl hx hb hr hlk hK hP hD hS dX8_drawn_222
      · have he := ifn he c1
        refine lv_aload_n hx hb dX8_drawn_200 rfl (lv_at hl 0 rfl) ?_
        refine va_get (D := D) (ci := 8) (v := .ref (g 1)) (C := RX8) (T := TX8) (N := 13) hx hb hts iX8 hown hK hP 0 rfl rfl 1 (by decide) w3 (fun _ h9 => h9) rfl dX8_drawn_201 ?_
        refine lv_iload hx hb dX8_drawn_204 (lv_at hl 2 rfl) ?_
        refine lv_aload_n hx hb dX8_drawn_206 rfl (lv_at hl 0 rfl) ?_
        refine va_get (D := D) (ci := 8) (v := .ref (g 3)) (C := RX8) (T := TX8) (N := 13) hx hb hts iX8 hown hK hP 0 rfl rfl 3 (by decide) w2 (fun _ h9 => h9) rfl dX8_drawn_207 ?_
        refine lv_iload hx hb dX8_drawn_210 (lv_at hl 2 rfl) ?_
        obtain ⟨h2, he⟩ := grd_i he
        refine va_iald hx hb hK hP 3 0 rfl rfl (ix_in h2) dX8_drawn_212 ?_
        obtain ⟨h3, he⟩ := grd_i he
        obtain ⟨s4, e5, he⟩ := lt_i he
        refine va_iast hx hb hK hP hD hS 1 0 rfl rfl (ix_in h3) dX8_drawn_213 (fun H locs hP hD hS => ?_)
        have hP : va_P D vwCl (wModel k g s4 im fr hd nw hh qs qz it th hm ow lo) H := by rw [e5]; exact hP
        have hD : va_D _ (wModel k g s4 im fr hd nw hh qs qz it th hm ow lo) := va_D_adr (by rw [e5]; rfl) hD
        refine lv_iinc (v := (x8 + 1)) (lv' := [(8, .int (x8 + 1)), (0, .ref (g 0)), (6, .long x6)]) hx hb dX8_drawn_214 hl (k := 2) rfl rfl (by decide) rfl (fun ls hl => ?_)
        refine lv_goto (tgt := 192) hx hb dX8_drawn_217 (by decide) ?_
        exact ih192 x6 (x8 + 1) s4 fr hd lo he H locs hP hD hS ls (lv_sub hl [1, 2, 0] rfl)
  have B108 : ∀ (n108 : Nat) (x3 : Int32) (x4 : Int64) (x6 : Int32) (s : Nat → Int32) (fr : Nat → Int32) (hd : Nat → Int32) (lo : Int32), xX8_drawn_108 n108 x3 x4 x6 s fr hd lo = some (r, s', fr', hd', lo') → ∀ (H : Heap) (locs : List Loc), va_P D vwCl (wModel k g s im fr hd nw hh qs qz it th hm ow lo) H → va_D (va_A (wModel k g s_0 im fr_0 hd_0 nw hh qs qz it th hm ow lo_0) ss.heap.size) (wModel k g s im fr hd nw hh qs qz it th hm ow lo) → va_S (va_A (wModel k g s_0 im fr_0 hd_0 nw hh qs qz it th hm ow lo_0) ss.heap.size) ss.heap H locs → ∀ ls : Array Slot, lv_has ls 9 [(0, .ref (g 0)), (3, .int x3), (4, .long x4), (6, .int x6)] → W pp l ee ({ frames := 9, cells := 0, slots := 0, locals := 203 } : Room) ss mm ([.ref (g 0), .int p1, .int p2, .int p3] : List Value).toArray bl me co H locs 0 0 (MQ bl (cQl D k (wModel k g s_0 im fr_0 hd_0 nw hh qs qz it th hm ow lo_0) ss.heap.size r (wModel k g s' im fr' hd' nw hh qs qz it th hm ow lo')) ([.ref (g 0), .int p1, .int p2, .int p3] : List Value).toArray ss 0 0 (va_A (wModel k g s_0 im fr_0 hd_0 nw hh qs qz it th hm ow lo_0) ss.heap.size)) (F0 mm 108 ls []) := by
    intro n108
    induction n108 with
    | zero =>
      intro x3 x4 x6 s fr hd lo he
      exact absurd (show (none : Option (Int64 × (Nat → Int32) × (Nat → Int32) × (Nat → Int32) × Int32)) = some (r, s', fr', hd', lo') from he) (by simp)
    | succ n108 ih108 =>
      intro x3 x4 x6 s fr hd lo he H locs hP hD hS ls hl
      refine lv_iload hx hb dX8_drawn_108 (lv_at hl 3 rfl) ?_
      refine lv_bipush (v := 96) hx hb dX8_drawn_110 (by decide) ?_
      refine lv_icmp_ge (tgt := 138) hx hb dX8_drawn_112 (by decide) (fun c6 => ?_) (fun c6 => ?_)
      · have he := ifp he c6
        refine lv_iload_n hx hb dX8_drawn_138 rfl (lv_at hl 1 rfl) ?_
        refine lv_if_ne (tgt := 150) hx hb dX8_drawn_139 (by decide) (fun c7 => ?_) (fun c7 => ?_)
        · have he := ifn he c7
          refine lv_iload_n hx hb dX8_drawn_150 rfl (lv_at hl 1 rfl) ?_
          refine lv_iconst (v := 1) hx hb dX8_drawn_151 (by decide) ?_
          refine lv_icmp_ne (tgt := 163) hx hb dX8_drawn_152 (by decide) (fun c8 => ?_) (fun c8 => ?_)
          · have he := ifn he c8
            refine lv_iload_n hx hb dX8_drawn_163 rfl (lv_at hl 1 rfl) ?_
            refine lv_iconst (v := 2) hx hb dX8_drawn_164 (by decide) ?_
            refine lv_icmp_ne (tgt := 185) hx hb dX8_drawn_165 (by decide) (fun c9 => ?_) (fun c9 => ?_)
            · have he := ifn he c9
              refine lv_lload hx hb dX8_drawn_185 (lv_at hl 2 rfl) ?_
              refine lv_lstore (lv' := [(6, .long x4), (0, .ref (g 0)), (3, .int x3), (4, .long x4)]) hx hb dX8_drawn_187 hl (by decide) rfl (fun ls hl => ?_)
              refine lv_iconst (v := 0) hx hb dX8_drawn_189 (by decide) ?_
              refine lv_istore (lv' := [(8, .int 0), (6, .long x4), (0, .ref (g 0)), (3, .int x3), (4, .long x4)]) hx hb dX8_drawn_190 hl (by decide) rfl (fun ls hl => ?_)
              exact B192 600 x4 0 s fr hd lo he H locs hP hD hS ls (lv_sub hl [2, 1, 0] rfl)
            · have he := ifp he c9
              refine lv_aload_n hx hb dX8_drawn_168 rfl (lv_at hl 0 rfl) ?_
              refine va_get (D := D) (ci := 8) (v := .ref (g 1)) (C := RX8) (T := TX8) (N := 13) hx hb hts iX8 hown hK hP 0 rfl rfl 1 (by decide) w3 (fun _ h9 => h9) rfl dX8_drawn_169 ?_
              refine lv_iconst (v := 1) hx hb dX8_drawn_172 (by decide) ?_
              obtain ⟨h10, he⟩ := grd_i he
              refine va_iald hx hb hK hP 1 0 rfl rfl (ix_in h10) dX8_drawn_173 ?_
              refine lv_aload_n hx hb dX8_drawn_174 rfl (lv_at hl 0 rfl) ?_
              refine va_get (D := D) (ci := 8) (v := .ref (g 3)) (C := RX8) (T := TX8) (N := 13) hx hb hts iX8 hown hK hP 0 rfl rfl 3 (by decide) w2 (fun _ h9 => h9) rfl dX8_drawn_175 ?_
              refine lv_iconst (v := 1) hx hb dX8_drawn_178 (by decide) ?_
              obtain ⟨h11, he⟩ := grd_i he
              refine va_iald hx hb hK hP 3 0 rfl rfl (ix_in h11) dX8_drawn_179 ?_
              refine lv_isub hx hb dX8_drawn_180 ?_
              refine lv_i2l (v := (Int32.toInt64 ((s (Int32.toNatClampNeg 1)) - (fr (Int32.toNatClampNeg 1))))) hx hb dX8_drawn_181 rfl ?_
              refine lv_goto (tgt := 187) hx hb dX8_drawn_182 (by decide) ?_
              refine lv_lstore (lv' := [(6, .long (Int32.toInt64 ((s (Int32.toNatClampNeg 1)) - (fr (Int32.toNatClampNeg 1))))), (0, .ref (g 0)), (3, .int x3), (4, .long x4)]) hx hb dX8_drawn_187 hl (by decide) rfl (fun ls hl => ?_)
              refine lv_iconst (v := 0) hx hb dX8_drawn_189 (by decide) ?_
              refine lv_istore (lv' := [(8, .int 0), (6, .long (Int32.toInt64 ((s (Int32.toNatClampNeg 1)) - (fr (Int32.toNatClampNeg 1))))), (0, .ref (g 0)), (3, .int x3), (4, .long x4)]) hx hb dX8_drawn_190 hl (by decide) rfl (fun ls hl => ?_)
              exact B192 600 (Int32.toInt64 ((s (Int32.toNatClampNeg 1)) - (fr (Int32.toNatClampNeg 1)))) 0 s fr hd lo he H locs hP hD hS ls (lv_sub hl [2, 1, 0] rfl)
          · have he := ifp he c8
            refine lv_aload_n hx hb dX8_drawn_155 rfl (lv_at hl 0 rfl) ?_
            obtain ⟨v12, h13, he⟩ := bn1_i he
            refine cVir (As := []) (rest := []) ⟨hx, hb, hml, hown, hts⟩ hK hA hP hD hS (mX8_blocks l D k g (s := s) (im := im) (fr := fr) (hd := hd) (nw := nw) (hh := hh) (qs := qs) (qz := qz) (it := it) (th := th) (hm := hm) (ow := ow) (lo := lo) h13) (cwV 0 hts gX8_drawn_X8_blocks rfl rfl rfl kX8_blocks ⟨Nat.le_of_ble_eq_true rfl, Nat.le_of_ble_eq_true rfl⟩) [0, 1, 2, 3, 4, 5, 6, 7, 8, 9] rfl rfl 0 rfl rfl rfl hl.1 rfl (Nat.le_of_ble_eq_true rfl) ⟨Nat.le_refl 0, Nat.le_refl 0⟩ dX8_drawn_156 (fun H locs hP hD hS => ?_)
            refine lv_i2l (v := (Int32.toInt64 v12)) hx hb dX8_drawn_159 rfl ?_
            refine lv_goto (tgt := 187) hx hb dX8_drawn_160 (by decide) ?_
            refine lv_lstore (lv' := [(6, .long (Int32.toInt64 v12)), (0, .ref (g 0)), (3, .int x3), (4, .long x4)]) hx hb dX8_drawn_187 hl (by decide) rfl (fun ls hl => ?_)
            refine lv_iconst (v := 0) hx hb dX8_drawn_189 (by decide) ?_
            refine lv_istore (lv' := [(8, .int 0), (6, .long (Int32.toInt64 v12)), (0, .ref (g 0)), (3, .int x3), (4, .long x4)]) hx hb dX8_drawn_190 hl (by decide) rfl (fun ls hl => ?_)
            exact B192 600 (Int32.toInt64 v12) 0 s fr hd lo he H locs hP hD hS ls (lv_sub hl [2, 1, 0] rfl)
        · have he := ifp he c7
          refine lv_aload_n hx hb dX8_drawn_142 rfl (lv_at hl 0 rfl) ?_
          obtain ⟨v14, h15, he⟩ := bn1_i he
          refine cVir (As := []) (rest := []) ⟨hx, hb, hml, hown, hts⟩ hK hA hP hD hS (mX8_things l D k g (s := s) (im := im) (fr := fr) (hd := hd) (nw := nw) (hh := hh) (qs := qs) (qz := qz) (it := it) (th := th) (hm := hm) (ow := ow) (lo := lo) h15) (cwV 0 hts gX8_drawn_X8_things rfl rfl rfl kX8_things ⟨Nat.le_of_ble_eq_true rfl, Nat.le_of_ble_eq_true rfl⟩) [0, 1, 2, 3, 4, 5, 6, 7, 8, 9] rfl rfl 0 rfl rfl rfl hl.1 rfl (Nat.le_of_ble_eq_true rfl) ⟨Nat.le_refl 0, Nat.le_refl 0⟩ dX8_drawn_143 (fun H locs hP hD hS => ?_)
          refine lv_i2l (v := (Int32.toInt64 v14)) hx hb dX8_drawn_146 rfl ?_
          refine lv_goto (tgt := 187) hx hb dX8_drawn_147 (by decide) ?_
          refine lv_lstore (lv' := [(6, .long (Int32.toInt64 v14)), (0, .ref (g 0)), (3, .int x3), (4, .long x4)]) hx hb dX8_drawn_187 hl (by decide) rfl (fun ls hl => ?_)
          refine lv_iconst (v := 0) hx hb dX8_drawn_189 (by decide) ?_
          refine lv_istore (lv' := [(8, .int 0), (6, .long (Int32.toInt64 v14)), (0, .ref (g 0)), (3, .int x3), (4, .long x4)]) hx hb dX8_drawn_190 hl (by decide) rfl (fun ls hl => ?_)
          exact B192 600 (Int32.toInt64 v14) 0 s fr hd lo he H locs hP hD hS ls (lv_sub hl [2, 1, 0] rfl)
      · have he := ifn he c6
        refine lv_lload hx hb dX8_drawn_115 (lv_at hl 2 rfl) ?_
        refine lv_aload_n hx hb dX8_drawn_117 rfl (lv_at hl 0 rfl) ?_
        refine va_get (D := D) (ci := 8) (v := .ref (g 1)) (C := RX8) (T := TX8) (N := 13) hx hb hts iX8 hown hK hP 0 rfl rfl 1 (by decide) w3 (fun _ h9 => h9) rfl dX8_drawn_118 ?_
        refine lv_sipush (v := 362) hx hb dX8_drawn_121 (by decide) ?_
        refine lv_iload hx hb dX8_drawn_124 (lv_at hl 3 rfl) ?_
        refine lv_iadd hx hb dX8_drawn_126 ?_
        obtain ⟨h16, he⟩ := grd_i he
        refine va_iald hx hb hK hP 1 0 rfl rfl (ix_in h16) dX8_drawn_127 ?_
        refine lv_i2l (v := (Int32.toInt64 (s (Int32.toNatClampNeg (362 + x6))))) hx hb dX8_drawn_128 rfl ?_
        refine lv_ladd hx hb dX8_drawn_129 ?_
        refine lv_lstore (lv' := [(4, .long (x4 + (Int32.toInt64 (s (Int32.toNatClampNeg (362 + x6)))))), (0, .ref (g 0)), (3, .int x3), (6, .int x6)]) hx hb dX8_drawn_130 hl (by decide) rfl (fun ls hl => ?_)
        refine lv_iinc (v := (x6 + 1)) (lv' := [(6, .int (x6 + 1)), (4, .long (x4 + (Int32.toInt64 (s (Int32.toNatClampNeg (362 + x6)))))), (0, .ref (g 0)), (3, .int x3)]) hx hb dX8_drawn_132 hl (k := 3) rfl rfl (by decide) rfl (fun ls hl => ?_)
        refine lv_goto (tgt := 108) hx hb dX8_drawn_135 (by decide) ?_
        exact ih108 x3 (x4 + (Int32.toInt64 (s (Int32.toNatClampNeg (362 + x6))))) (x6 + 1) s fr hd lo he H locs hP hD hS ls (lv_sub hl [2, 3, 1, 0] rfl)
  have B62 : ∀ (n62 : Nat) (x2 : Int32) (x3 : Int32) (x4 : Int32) (s : Nat → Int32) (fr : Nat → Int32) (hd : Nat → Int32) (lo : Int32), xX8_drawn_62 n62 x2 x3 x4 s fr hd lo = some (r, s', fr', hd', lo') → ∀ (H : Heap) (locs : List Loc), va_P D vwCl (wModel k g s im fr hd nw hh qs qz it th hm ow lo) H → va_D (va_A (wModel k g s_0 im fr_0 hd_0 nw hh qs qz it th hm ow lo_0) ss.heap.size) (wModel k g s im fr hd nw hh qs qz it th hm ow lo) → va_S (va_A (wModel k g s_0 im fr_0 hd_0 nw hh qs qz it th hm ow lo_0) ss.heap.size) ss.heap H locs → ∀ ls : Array Slot, lv_has ls 9 [(0, .ref (g 0)), (2, .int x2), (3, .int x3), (4, .int x4)] → W pp l ee ({ frames := 9, cells := 0, slots := 0, locals := 203 } : Room) ss mm ([.ref (g 0), .int p1, .int p2, .int p3] : List Value).toArray bl me co H locs 0 0 (MQ bl (cQl D k (wModel k g s_0 im fr_0 hd_0 nw hh qs qz it th hm ow lo_0) ss.heap.size r (wModel k g s' im fr' hd' nw hh qs qz it th hm ow lo')) ([.ref (g 0), .int p1, .int p2, .int p3] : List Value).toArray ss 0 0 (va_A (wModel k g s_0 im fr_0 hd_0 nw hh qs qz it th hm ow lo_0) ss.heap.size)) (F0 mm 62 ls []) := by
    intro n62
    induction n62 with
    | zero =>
      intro x2 x3 x4 s fr hd lo he
      exact absurd (show (none : Option (Int64 × (Nat → Int32) × (Nat → Int32) × (Nat → Int32) × Int32)) = some (r, s', fr', hd', lo') from he) (by simp)
    | succ n62 ih62 =>
      intro x2 x3 x4 s fr hd lo he H locs hP hD hS ls hl
      refine lv_iload hx hb dX8_drawn_62 (lv_at hl 3 rfl) ?_
      refine lv_iload_n hx hb dX8_drawn_64 rfl (lv_at hl 1 rfl) ?_
      refine lv_icmp_ge (tgt := 102) hx hb dX8_drawn_65 (by decide) (fun c17 => ?_) (fun c17 => ?_)
      · have he := ifp he c17
        refine lv_lconst (v := 0) hx hb dX8_drawn_102 (by decide) ?_
        refine lv_lstore (lv' := [(4, .long 0), (0, .ref (g 0)), (2, .int x2), (3, .int x3)]) hx hb dX8_drawn_103 hl (by decide) rfl (fun ls hl => ?_)
        refine lv_iconst (v := 0) hx hb dX8_drawn_105 (by decide) ?_
        refine lv_istore (lv' := [(6, .int 0), (4, .long 0), (0, .ref (g 0)), (2, .int x2), (3, .int x3)]) hx hb dX8_drawn_106 hl (by decide) rfl (fun ls hl => ?_)
        exact B108 600 x3 0 0 s fr hd lo he H locs hP hD hS ls (lv_sub hl [2, 4, 1, 0] rfl)
      · have he := ifn he c17
        refine lv_aload_n hx hb dX8_drawn_68 rfl (lv_at hl 0 rfl) ?_
        obtain ⟨v18, lo19, h20, he⟩ := bn2_i he
        refine cVi (wf := (wModel k g s im fr hd nw hh qs qz it th hm ow lo19)) (As := []) (rest := []) ⟨hx, hb, hml, hown, hts⟩ hK hA hP hD hS (mX8_lots l D k g (s := s) (im := im) (fr := fr) (hd := hd) (nw := nw) (hh := hh) (qs := qs) (qz := qz) (it := it) (th := th) (hm := hm) (ow := ow) (lo_0 := lo) h20) (cwV 0 hts gX8_drawn_X8_lots rfl rfl rfl kX8_lots ⟨Nat.le_of_ble_eq_true rfl, Nat.le_of_ble_eq_true rfl⟩) [0, 1, 2, 3, 4, 5, 6, 7, 8, 9] rfl rfl rfl [false, false, false, false, false, false, false, false, false, false] trivial 10 rfl (by decide +kernel) rfl 0 rfl rfl rfl hl.1 rfl (Nat.le_of_ble_eq_true rfl) ⟨Nat.le_refl 0, Nat.le_refl 0⟩ dX8_drawn_69 (fun H locs hP hD hS => ?_)
        refine lv_istore (lv' := [(5, .int v18), (0, .ref (g 0)), (2, .int x2), (3, .int x3), (4, .int x4)]) hx hb dX8_drawn_72 hl (by decide) rfl (fun ls hl => ?_)
        refine lv_aload_n hx hb dX8_drawn_74 rfl (lv_at hl 1 rfl) ?_
        obtain ⟨v21, lo22, h23, he⟩ := bn2_i he
        refine cVi (wf := (wModel k g s im fr hd nw hh qs qz it th hm ow lo22)) (As := []) (rest := []) ⟨hx, hb, hml, hown, hts⟩ hK hA hP hD hS (mX8_lots l D k g (s := s) (im := im) (fr := fr) (hd := hd) (nw := nw) (hh := hh) (qs := qs) (qz := qz) (it := it) (th := th) (hm := hm) (ow := ow) (lo_0 := lo19) h23) (cwV 0 hts gX8_drawn_X8_lots rfl rfl rfl kX8_lots ⟨Nat.le_of_ble_eq_true rfl, Nat.le_of_ble_eq_true rfl⟩) [0, 1, 2, 3, 4, 5, 6, 7, 8, 9] rfl rfl rfl [false, false, false, false, false, false, false, false, false, false] trivial 10 rfl (by decide +kernel) rfl 0 rfl rfl rfl hl.1 rfl (Nat.le_of_ble_eq_true rfl) ⟨Nat.le_refl 0, Nat.le_refl 0⟩ dX8_drawn_75 (fun H locs hP hD hS => ?_)
        refine lv_istore (lv' := [(6, .int v21), (5, .int v18), (0, .ref (g 0)), (2, .int x2), (3, .int x3), (4, .int x4)]) hx hb dX8_drawn_78 hl (by decide) rfl (fun ls hl => ?_)
        refine lv_aload_n hx hb dX8_drawn_80 rfl (lv_at hl 2 rfl) ?_
        obtain ⟨v24, lo25, h26, he⟩ := bn2_i he
        refine cVi (wf := (wModel k g s im fr hd nw hh qs qz it th hm ow lo25)) (As := []) (rest := []) ⟨hx, hb, hml, hown, hts⟩ hK hA hP hD hS (mX8_lots l D k g (s := s) (im := im) (fr := fr) (hd := hd) (nw := nw) (hh := hh) (qs := qs) (qz := qz) (it := it) (th := th) (hm := hm) (ow := ow) (lo_0 := lo22) h26) (cwV 0 hts gX8_drawn_X8_lots rfl rfl rfl kX8_lots ⟨Nat.le_of_ble_eq_true rfl, Nat.le_of_ble_eq_true rfl⟩) [0, 1, 2, 3, 4, 5, 6, 7, 8, 9] rfl rfl rfl [false, false, false, false, false, false, false, false, false, false] trivial 10 rfl (by decide +kernel) rfl 0 rfl rfl rfl hl.1 rfl (Nat.le_of_ble_eq_true rfl) ⟨Nat.le_refl 0, Nat.le_refl 0⟩ dX8_drawn_81 (fun H locs hP hD hS => ?_)
        refine lv_istore (lv' := [(7, .int v24), (6, .int v21), (5, .int v18), (0, .ref (g 0)), (2, .int x2), (3, .int x3), (4, .int x4)]) hx hb dX8_drawn_84 hl (by decide) rfl (fun ls hl => ?_)
        refine lv_aload_n hx hb dX8_drawn_86 rfl (lv_at hl 3 rfl) ?_
        refine lv_iload hx hb dX8_drawn_87 (lv_at hl 2 rfl) ?_
        refine lv_iload hx hb dX8_drawn_89 (lv_at hl 1 rfl) ?_
        refine lv_iload hx hb dX8_drawn_91 (lv_at hl 0 rfl) ?_
        obtain ⟨s27, hd28, h29, he⟩ := bn2_i he
        refine cVv (wf := (wModel k g s27 im fr hd28 nw hh qs qz it th hm ow lo25)) (As := [.int v18, .int v21, .int v24]) (rest := []) ⟨hx, hb, hml, hown, hts⟩ hK hA hP hD hS (mX8_draws l D k g (s_0 := s) (im := im) (fr := fr) (hd_0 := hd) (nw := nw) (hh := hh) (qs := qs) (qz := qz) (it := it) (th := th) (hm := hm) (ow := ow) (lo := lo25) h29) (cwV 3 hts gX8_drawn_X8_draws rfl rfl rfl kX8_draws ⟨Nat.le_of_ble_eq_true rfl, Nat.le_of_ble_eq_true rfl⟩) [0, 1, 2, 3, 4, 5, 6, 7, 8, 9] rfl rfl rfl [false, false, false, false, false, false, false, false, false, false] trivial 10 rfl (by decide +kernel) rfl 0 rfl rfl rfl hl.1 rfl (Nat.le_of_ble_eq_true rfl) ⟨Nat.le_refl 0, Nat.le_refl 0⟩ dX8_drawn_93 (fun H locs hP hD hS => ?_)
        refine lv_iinc (v := (x4 + 1)) (lv' := [(4, .int (x4 + 1)), (7, .int v24), (6, .int v21), (5, .int v18), (0, .ref (g 0)), (2, .int x2), (3, .int x3)]) hx hb dX8_drawn_96 hl (k := 6) rfl rfl (by decide) rfl (fun ls hl => ?_)
        refine lv_goto (tgt := 62) hx hb dX8_drawn_99 (by decide) ?_
        exact ih62 x2 x3 (x4 + 1) s27 fr hd28 lo25 he H locs hP hD hS ls (lv_sub hl [4, 5, 6, 0] rfl)
  have B26 : ∀ (n26 : Nat) (x1 : Int32) (x2 : Int32) (x3 : Int32) (x4 : Int32) (s : Nat → Int32) (fr : Nat → Int32) (hd : Nat → Int32) (lo : Int32), xX8_drawn_26 n26 x1 x2 x3 x4 s fr hd lo = some (r, s', fr', hd', lo') → ∀ (H : Heap) (locs : List Loc), va_P D vwCl (wModel k g s im fr hd nw hh qs qz it th hm ow lo) H → va_D (va_A (wModel k g s_0 im fr_0 hd_0 nw hh qs qz it th hm ow lo_0) ss.heap.size) (wModel k g s im fr hd nw hh qs qz it th hm ow lo) → va_S (va_A (wModel k g s_0 im fr_0 hd_0 nw hh qs qz it th hm ow lo_0) ss.heap.size) ss.heap H locs → ∀ ls : Array Slot, lv_has ls 9 [(0, .ref (g 0)), (1, .int x1), (2, .int x2), (3, .int x3), (4, .int x4)] → W pp l ee ({ frames := 9, cells := 0, slots := 0, locals := 203 } : Room) ss mm ([.ref (g 0), .int p1, .int p2, .int p3] : List Value).toArray bl me co H locs 0 0 (MQ bl (cQl D k (wModel k g s_0 im fr_0 hd_0 nw hh qs qz it th hm ow lo_0) ss.heap.size r (wModel k g s' im fr' hd' nw hh qs qz it th hm ow lo')) ([.ref (g 0), .int p1, .int p2, .int p3] : List Value).toArray ss 0 0 (va_A (wModel k g s_0 im fr_0 hd_0 nw hh qs qz it th hm ow lo_0) ss.heap.size)) (F0 mm 26 ls []) := by
    intro n26
    induction n26 with
    | zero =>
      intro x1 x2 x3 x4 s fr hd lo he
      exact absurd (show (none : Option (Int64 × (Nat → Int32) × (Nat → Int32) × (Nat → Int32) × Int32)) = some (r, s', fr', hd', lo') from he) (by simp)
    | succ n26 ih26 =>
      intro x1 x2 x3 x4 s fr hd lo he H locs hP hD hS ls hl
      refine lv_iload hx hb dX8_drawn_26 (lv_at hl 4 rfl) ?_
      refine lv_sipush (v := 554) hx hb dX8_drawn_28 (by decide) ?_
      refine lv_icmp_ge (tgt := 54) hx hb dX8_drawn_31 (by decide) (fun c30 => ?_) (fun c30 => ?_)
      · have he := ifp he c30
        refine lv_aload_n hx hb dX8_drawn_54 rfl (lv_at hl 0 rfl) ?_
        refine lv_iload_n hx hb dX8_drawn_55 rfl (lv_at hl 1 rfl) ?_
        obtain ⟨lo31, e32, he⟩ := lt_i he
        refine va_put (D := D) (ci := 8) (v := .int x1) (ty := .int) (C := RX8) (T := TX8) (N := 13) hx hb hts iX8 tyX8 tyX8_ok nmX8 hown hK hP hD hS 0 rfl rfl 12 (by decide) w4 (fun _ h9 => h9) rfl (by decide +kernel) rfl rfl (Nat.le_of_ble_eq_true rfl) dX8_drawn_56 (fun H locs hP hD hS => ?_)
        have hP : va_P D vwCl (wModel k g s im fr hd nw hh qs qz it th hm ow lo31) H := by rw [e32]; exact hP
        have hD : va_D _ (wModel k g s im fr hd nw hh qs qz it th hm ow lo31) := va_D_adr (by rw [e32]; rfl) hD
        refine lv_iconst (v := 0) hx hb dX8_drawn_59 (by decide) ?_
        refine lv_istore (lv' := [(4, .int 0), (0, .ref (g 0)), (1, .int x1), (2, .int x2), (3, .int x3)]) hx hb dX8_drawn_60 hl (by decide) rfl (fun ls hl => ?_)
        exact B62 600 x2 x3 0 s fr hd lo31 he H locs hP hD hS ls (lv_sub hl [1, 3, 4, 0] rfl)
      · have he := ifn he c30
        refine lv_aload_n hx hb dX8_drawn_34 rfl (lv_at hl 0 rfl) ?_
        refine va_get (D := D) (ci := 8) (v := .ref (g 3)) (C := RX8) (T := TX8) (N := 13) hx hb hts iX8 hown hK hP 0 rfl rfl 3 (by decide) w2 (fun _ h9 => h9) rfl dX8_drawn_35 ?_
        refine lv_iload hx hb dX8_drawn_38 (lv_at hl 4 rfl) ?_
        refine lv_aload_n hx hb dX8_drawn_40 rfl (lv_at hl 0 rfl) ?_
        refine va_get (D := D) (ci := 8) (v := .ref (g 1)) (C := RX8) (T := TX8) (N := 13) hx hb hts iX8 hown hK hP 0 rfl rfl 1 (by decide) w3 (fun _ h9 => h9) rfl dX8_drawn_41 ?_
        refine lv_iload hx hb dX8_drawn_44 (lv_at hl 4 rfl) ?_
        obtain ⟨h33, he⟩ := grd_i he
        refine va_iald hx hb hK hP 1 0 rfl rfl (ix_in h33) dX8_drawn_46 ?_
        obtain ⟨h34, he⟩ := grd_i he
        obtain ⟨fr35, e36, he⟩ := lt_i he
        refine va_iast hx hb hK hP hD hS 3 0 rfl rfl (ix_in h34) dX8_drawn_47 (fun H locs hP hD hS => ?_)
        have hP : va_P D vwCl (wModel k g s im fr35 hd nw hh qs qz it th hm ow lo) H := by rw [e36]; exact hP
        have hD : va_D _ (wModel k g s im fr35 hd nw hh qs qz it th hm ow lo) := va_D_adr (by rw [e36]; rfl) hD
        refine lv_iinc (v := (x4 + 1)) (lv' := [(4, .int (x4 + 1)), (0, .ref (g 0)), (1, .int x1), (2, .int x2), (3, .int x3)]) hx hb dX8_drawn_48 hl (k := 4) rfl rfl (by decide) rfl (fun ls hl => ?_)
        refine lv_goto (tgt := 26) hx hb dX8_drawn_51 (by decide) ?_
        exact ih26 x1 x2 x3 (x4 + 1) s fr35 hd lo he H locs hP hD hS ls (lv_sub hl [1, 2, 3, 4, 0] rfl)
  have hS0 := hS
  have key : ∀ (H : Heap) (locs : List Loc), H = ss.heap → locs = [] → va_P D vwCl (wModel k g s_0 im fr_0 hd_0 nw hh qs qz it th hm ow lo_0) H → va_S (va_A (wModel k g s_0 im fr_0 hd_0 nw hh qs qz it th hm ow lo_0) ss.heap.size) ss.heap H locs → W pp l ee ({ frames := 9, cells := 0, slots := 0, locals := 203 } : Room) ss mm ([.ref (g 0), .int p1, .int p2, .int p3] : List Value).toArray bl me co H locs 0 0 (MQ bl (cQl D k (wModel k g s_0 im fr_0 hd_0 nw hh qs qz it th hm ow lo_0) ss.heap.size r (wModel k g s' im fr' hd' nw hh qs qz it th hm ow lo')) ([.ref (g 0), .int p1, .int p2, .int p3] : List Value).toArray ss 0 0 (va_A (wModel k g s_0 im fr_0 hd_0 nw hh qs qz it th hm ow lo_0) ss.heap.size)) (F0 mm 0 ls []) := by
    intro H locs _ _ hP hS
    refine lv_iload_n hx hb dX8_drawn_0 rfl (lv_at hl 2 rfl) ?_
    refine lv_iconst (v := 0) hx hb dX8_drawn_1 (by decide) ?_
    refine lv_bipush (v := 60) hx hb dX8_drawn_2 (by decide) ?_
    obtain ⟨v1001, h1002, he⟩ := bn1_i he
    refine cSi (rest := []) ⟨hx, hb, hml, hown, hts⟩ hK hA hP hD hS (mX8_in l D k h1002) (cwS 3 hts gX8_drawn_X8_in rfl rfl rfl kX8_in ⟨Nat.le_of_ble_eq_true rfl, Nat.le_of_ble_eq_true rfl⟩) rfl hl.1 rfl (Nat.le_of_ble_eq_true rfl) ⟨Nat.le_refl 0, Nat.le_refl 0⟩ dX8_drawn_4 (fun H locs hP hD hS => ?_)
    refine lv_if_eq (tgt := 19) hx hb dX8_drawn_7 (by decide) (fun c1003 => ?_) (fun c1003 => ?_)
    · have he := ifp he c1003
      refine lv_ldc2 hx hb hown w1 dX8_drawn_19 ?_
      obtain ⟨rfl, rfl, rfl, rfl, rfl⟩ := some5 he
      exact cRl hx hb hr hlk hK hP hD hS dX8_drawn_22
    · have he := ifn he c1003
      refine lv_iload_n hx hb dX8_drawn_10 rfl (lv_at hl 3 rfl) ?_
      refine lv_iconst (v := 0) hx hb dX8_drawn_11 (by decide) ?_
      refine lv_iconst (v := 3) hx hb dX8_drawn_12 (by decide) ?_
      obtain ⟨v1004, h1005, he⟩ := bn1_i he
      refine cSi (rest := []) ⟨hx, hb, hml, hown, hts⟩ hK hA hP hD hS (mX8_in l D k h1005) (cwS 3 hts gX8_drawn_X8_in rfl rfl rfl kX8_in ⟨Nat.le_of_ble_eq_true rfl, Nat.le_of_ble_eq_true rfl⟩) rfl hl.1 rfl (Nat.le_of_ble_eq_true rfl) ⟨Nat.le_refl 0, Nat.le_refl 0⟩ dX8_drawn_13 (fun H locs hP hD hS => ?_)
      refine lv_if_ne (tgt := 23) hx hb dX8_drawn_16 (by decide) (fun c1006 => ?_) (fun c1006 => ?_)
      · have he := ifn he c1006
        refine lv_iconst (v := 0) hx hb dX8_drawn_23 (by decide) ?_
        refine lv_istore (lv' := [(4, .int 0), (0, .ref (g 0)), (1, .int p1), (2, .int p2), (3, .int p3)]) hx hb dX8_drawn_24 hl (by decide) rfl (fun ls hl => ?_)
        exact B26 600 p1 p2 p3 0 s_0 fr_0 hd_0 lo_0 he H locs hP hD hS ls (lv_sub hl [1, 2, 3, 4, 0] rfl)
      · have he := ifp he c1006
        refine lv_ldc2 hx hb hown w1 dX8_drawn_19 ?_
        obtain ⟨rfl, rfl, rfl, rfl, rfl⟩ := some5 he
        exact cRl hx hb hr hlk hK hP hD hS dX8_drawn_22
  exact key ss.heap [] rfl rfl hP hS
theorem kX8_image : yX8_image.cls = RX8 ∧ yX8_image.cls ≠ "java/lang/invoke/MethodHandle" ∧ yX8_image.cls ≠ "java/lang/invoke/VarHandle" ∧ (parseMethodDescriptor yX8_image.desc).map (fun d => d.parameters.length) = some 0 := by decide +kernel
set_option maxRecDepth 100000 in
set_option maxHeartbeats 4000000 in
theorem mX8_image (l : Launch) (D : va_G) (k : Nat → ClassId) (g : Nat → Nat) {s : Nat → Int32} {im_0 : Nat → Int32} {fr : Nat → Int32} {hd : Nat → Int32} {nw : Nat → Int32} {hh : Nat → Int32} {qs : Nat → Int32} {qz : Nat → Int32} {it : Nat → Int64} {th : Int32} {hm_0 : Int32} {ow : Int32} {lo : Int32}  {r : Int32} {im' : Nat → Int32} {hm' : Int32} (he : xX8_image s im_0 hm_0 = some (r, im', hm')) : CtI l D k yX8_image wsX8_image ({ frames := 3, cells := 0, slots := 0, locals := 65 } : Room) [.ref (g 0)] (wModel k g s im_0 fr hd nw hh qs qz it th hm_0 ow lo) r (wModel k g s im' fr hd nw hh qs qz it th hm' ow lo) := by
  intro sz9
  refine cSt (lv := [(0, .ref (g 0))]) (own := RX8) (cc := cX8_image) (nL := 2) (ret := (some .int)) (by decide +kernel) rfl rfl (Nat.le_of_ble_eq_true rfl) rfl ?_
  intro pp ee ss mm bl me co hsz hC0 hP hD hS ls hl
  subst hsz
  obtain ⟨hx, hb, hr, hml, hown, hts, hK, hlk⟩ := hC0
  have hA : ∀ q, ss.heap.size ≤ q → va_A (wModel k g s im_0 fr hd nw hh qs qz it th hm_0 ow lo) ss.heap.size q := fun q h => Or.inr h
  have iX8 : ∀ w ∈ wsX80, w ∈ wsX8_image := fun _ h => List.mem_cons_of_mem _ (List.mem_append_right _ h)
  have w3 := hts (.fieldLink RX8 213 "DeadListPoolModel" "hasImage" "Z") (List.mem_of_getElem? (i := 3) rfl)
  have w1 := hts (.fieldLink RX8 13 "DeadListPoolModel" "image" "[I") (List.mem_of_getElem? (i := 1) rfl)
  have w2 := hts (.fieldLink RX8 7 "DeadListPoolModel" "s" "[I") (List.mem_of_getElem? (i := 2) rfl)
  have B2 : ∀ (n2 : Nat) (x1 : Int32) (im : Nat → Int32) (hm : Int32), xX8_image_2 s n2 x1 im hm = some (r, im', hm') → ∀ (H : Heap) (locs : List Loc), va_P D vwCl (wModel k g s im fr hd nw hh qs qz it th hm ow lo) H → va_D (va_A (wModel k g s im_0 fr hd nw hh qs qz it th hm_0 ow lo) ss.heap.size) (wModel k g s im fr hd nw hh qs qz it th hm ow lo) → va_S (va_A (wModel k g s im_0 fr hd nw hh qs qz it th hm_0 ow lo) ss.heap.size) ss.heap H locs → ∀ ls : Array Slot, lv_has ls 2 [(0, .ref (g 0)), (1, .int x1)] → W pp l ee ({ frames := 3, cells := 0, slots := 0, locals := 65 } : Room) ss mm ([.ref (g 0)] : List Value).toArray bl me co H locs 0 0 (MQ bl (cQi D k (wModel k g s im_0 fr hd nw hh qs qz it th hm_0 ow lo) ss.heap.size r (wModel k g s im' fr hd nw hh qs qz it th hm' ow lo)) ([.ref (g 0)] : List Value).toArray ss 0 0 (va_A (wModel k g s im_0 fr hd nw hh qs qz it th hm_0 ow lo) ss.heap.size)) (F0 mm 2 ls []) := by
    intro n2
    induction n2 with
    | zero =>
      intro x1 im hm he
      exact absurd (show (none : Option (Int32 × (Nat → Int32) × Int32)) = some (r, im', hm') from he) (by simp)
    | succ n2 ih2 =>
      intro x1 im hm he H locs hP hD hS ls hl
      refine lv_iload_n hx hb dX8_image_2 rfl (lv_at hl 1 rfl) ?_
      refine lv_sipush (v := 554) hx hb dX8_image_3 (by decide) ?_
      refine lv_icmp_ge (tgt := 27) hx hb dX8_image_6 (by decide) (fun c1 => ?_) (fun c1 => ?_)
      · have he := ifp he c1
        refine lv_aload_n hx hb dX8_image_27 rfl (lv_at hl 0 rfl) ?_
        refine lv_iconst (v := 1) hx hb dX8_image_28 (by decide) ?_
        obtain ⟨hm2, e3, he⟩ := lt_i he
        refine va_put (D := D) (ci := 8) (v := .int 1) (ty := .boolean) (C := RX8) (T := TX8) (N := 13) hx hb hts iX8 tyX8 tyX8_ok nmX8 hown hK hP hD hS 0 rfl rfl 4 (by decide) w3 (fun _ h9 => h9) rfl (by decide +kernel) rfl rfl (Nat.le_of_ble_eq_true rfl) dX8_image_29 (fun H locs hP hD hS => ?_)
        have hP : va_P D vwCl (wModel k g s im fr hd nw hh qs qz it th hm2 ow lo) H := by rw [e3]; exact hP
        have hD : va_D _ (wModel k g s im fr hd nw hh qs qz it th hm2 ow lo) := va_D_adr (by rw [e3]; rfl) hD
        refine lv_aload_n hx hb dX8_image_32 rfl (lv_at hl 0 rfl) ?_
        obtain ⟨v4, h5, he⟩ := bn1_i he
        refine cVir (As := []) (rest := []) ⟨hx, hb, hml, hown, hts⟩ hK hA hP hD hS (mX8_things l D k g (s := s) (im := im) (fr := fr) (hd := hd) (nw := nw) (hh := hh) (qs := qs) (qz := qz) (it := it) (th := th) (hm := hm2) (ow := ow) (lo := lo) h5) (cwV 0 hts gX8_image_X8_things rfl rfl rfl kX8_things ⟨Nat.le_of_ble_eq_true rfl, Nat.le_of_ble_eq_true rfl⟩) [0, 1, 2, 3, 4, 5, 6, 7, 8, 9] rfl rfl 0 rfl rfl rfl hl.1 rfl (Nat.le_of_ble_eq_true rfl) ⟨Nat.le_refl 0, Nat.le_refl 0⟩ dX8_image_33 (fun H locs hP hD hS => ?_)
        obtain ⟨rfl, rfl, rfl⟩ := some3 he
        exact cRi hx hb hr hlk hK rfl hP hD hS dX8_image_36
      · have he := ifn he c1
        refine lv_aload_n hx hb dX8_image_9 rfl (lv_at hl 0 rfl) ?_
        refine va_get (D := D) (ci := 8) (v := .ref (g 2)) (C := RX8) (T := TX8) (N := 13) hx hb hts iX8 hown hK hP 0 rfl rfl 2 (by decide) w1 (fun _ h9 => h9) rfl dX8_image_10 ?_
        refine lv_iload_n hx hb dX8_image_13 rfl (lv_at hl 1 rfl) ?_
        refine lv_aload_n hx hb dX8_image_14 rfl (lv_at hl 0 rfl) ?_
        refine va_get (D := D) (ci := 8) (v := .ref (g 1)) (C := RX8) (T := TX8) (N := 13) hx hb hts iX8 hown hK hP 0 rfl rfl 1 (by decide) w2 (fun _ h9 => h9) rfl dX8_image_15 ?_
        refine lv_iload_n hx hb dX8_image_18 rfl (lv_at hl 1 rfl) ?_
        obtain ⟨h6, he⟩ := grd_i he
        refine va_iald hx hb hK hP 1 0 rfl rfl (ix_in h6) dX8_image_19 ?_
        obtain ⟨h7, he⟩ := grd_i he
        obtain ⟨im8, e9, he⟩ := lt_i he
        refine va_iast hx hb hK hP hD hS 2 0 rfl rfl (ix_in h7) dX8_image_20 (fun H locs hP hD hS => ?_)
        have hP : va_P D vwCl (wModel k g s im8 fr hd nw hh qs qz it th hm ow lo) H := by rw [e9]; exact hP
        have hD : va_D _ (wModel k g s im8 fr hd nw hh qs qz it th hm ow lo) := va_D_adr (by rw [e9]; rfl) hD
        refine lv_iinc (v := (x1 + 1)) (lv' := [(1, .int (x1 + 1)), (0, .ref (g 0))]) hx hb dX8_image_21 hl (k := 1) rfl rfl (by decide) rfl (fun ls hl => ?_)
        refine lv_goto (tgt := 2) hx hb dX8_image_24 (by decide) ?_
        exact ih2 (x1 + 1) im8 hm he H locs hP hD hS ls (lv_sub hl [1, 0] rfl)
  have hS0 := hS
  have key : ∀ (H : Heap) (locs : List Loc), H = ss.heap → locs = [] → va_P D vwCl (wModel k g s im_0 fr hd nw hh qs qz it th hm_0 ow lo) H → va_S (va_A (wModel k g s im_0 fr hd nw hh qs qz it th hm_0 ow lo) ss.heap.size) ss.heap H locs → W pp l ee ({ frames := 3, cells := 0, slots := 0, locals := 65 } : Room) ss mm ([.ref (g 0)] : List Value).toArray bl me co H locs 0 0 (MQ bl (cQi D k (wModel k g s im_0 fr hd nw hh qs qz it th hm_0 ow lo) ss.heap.size r (wModel k g s im' fr hd nw hh qs qz it th hm' ow lo)) ([.ref (g 0)] : List Value).toArray ss 0 0 (va_A (wModel k g s im_0 fr hd nw hh qs qz it th hm_0 ow lo) ss.heap.size)) (F0 mm 0 ls []) := by
    intro H locs _ _ hP hS
    refine lv_iconst (v := 0) hx hb dX8_image_0 (by decide) ?_
    refine lv_istore_n (lv' := [(1, .int 0), (0, .ref (g 0))]) hx hb dX8_image_1 rfl hl (by decide) rfl (fun ls hl => ?_)
    exact B2 600 0 im_0 hm_0 he H locs hP hD hS ls (lv_sub hl [1, 0] rfl)
  exact key ss.heap [] rfl rfl hP hS
theorem kX8_back : yX8_back.cls = RX8 ∧ yX8_back.cls ≠ "java/lang/invoke/MethodHandle" ∧ yX8_back.cls ≠ "java/lang/invoke/VarHandle" ∧ (parseMethodDescriptor yX8_back.desc).map (fun d => d.parameters.length) = some 0 := by decide +kernel
set_option maxRecDepth 100000 in
set_option maxHeartbeats 4000000 in
theorem mX8_back (l : Launch) (D : va_G) (k : Nat → ClassId) (g : Nat → Nat) {s_0 : Nat → Int32} {im : Nat → Int32} {fr : Nat → Int32} {hd : Nat → Int32} {nw : Nat → Int32} {hh : Nat → Int32} {qs : Nat → Int32} {qz : Nat → Int32} {it : Nat → Int64} {th : Int32} {hm : Int32} {ow : Int32} {lo : Int32}  {r : Int32} {s' : Nat → Int32} (he : xX8_back im hm s_0 = some (r, s')) : CtI l D k yX8_back wsX8_back ({ frames := 3, cells := 0, slots := 0, locals := 65 } : Room) [.ref (g 0)] (wModel k g s_0 im fr hd nw hh qs qz it th hm ow lo) r (wModel k g s' im fr hd nw hh qs qz it th hm ow lo) := by
  intro sz9
  refine cSt (lv := [(0, .ref (g 0))]) (own := RX8) (cc := cX8_back) (nL := 2) (ret := (some .int)) (by decide +kernel) rfl rfl (Nat.le_of_ble_eq_true rfl) rfl ?_
  intro pp ee ss mm bl me co hsz hC0 hP hD hS ls hl
  subst hsz
  obtain ⟨hx, hb, hr, hml, hown, hts, hK, hlk⟩ := hC0
  have hA : ∀ q, ss.heap.size ≤ q → va_A (wModel k g s_0 im fr hd nw hh qs qz it th hm ow lo) ss.heap.size q := fun q h => Or.inr h
  have iX8 : ∀ w ∈ wsX80, w ∈ wsX8_back := fun _ h => List.mem_cons_of_mem _ (List.mem_append_right _ h)
  have w2 := hts (.fieldLink RX8 7 "DeadListPoolModel" "s" "[I") (List.mem_of_getElem? (i := 2) rfl)
  have w3 := hts (.fieldLink RX8 13 "DeadListPoolModel" "image" "[I") (List.mem_of_getElem? (i := 3) rfl)
  have w1 := hts (.fieldLink RX8 213 "DeadListPoolModel" "hasImage" "Z") (List.mem_of_getElem? (i := 1) rfl)
  have B12 : ∀ (n12 : Nat) (x1 : Int32) (s : Nat → Int32), xX8_back_12 im hm n12 x1 s = some (r, s') → ∀ (H : Heap) (locs : List Loc), va_P D vwCl (wModel k g s im fr hd nw hh qs qz it th hm ow lo) H → va_D (va_A (wModel k g s_0 im fr hd nw hh qs qz it th hm ow lo) ss.heap.size) (wModel k g s im fr hd nw hh qs qz it th hm ow lo) → va_S (va_A (wModel k g s_0 im fr hd nw hh qs qz it th hm ow lo) ss.heap.size) ss.heap H locs → ∀ ls : Array Slot, lv_has ls 2 [(0, .ref (g 0)), (1, .int x1)] → W pp l ee ({ frames := 3, cells := 0, slots := 0, locals := 65 } : Room) ss mm ([.ref (g 0)] : List Value).toArray bl me co H locs 0 0 (MQ bl (cQi D k (wModel k g s_0 im fr hd nw hh qs qz it th hm ow lo) ss.heap.size r (wModel k g s' im fr hd nw hh qs qz it th hm ow lo)) ([.ref (g 0)] : List Value).toArray ss 0 0 (va_A (wModel k g s_0 im fr hd nw hh qs qz it th hm ow lo) ss.heap.size)) (F0 mm 12 ls []) := by
    intro n12
    induction n12 with
    | zero =>
      intro x1 s he
      exact absurd (show (none : Option (Int32 × (Nat → Int32))) = some (r, s') from he) (by simp)
    | succ n12 ih12 =>
      intro x1 s he H locs hP hD hS ls hl
      refine lv_iload_n hx hb dX8_back_12 rfl (lv_at hl 1 rfl) ?_
      refine lv_sipush (v := 554) hx hb dX8_back_13 (by decide) ?_
      refine lv_icmp_ge (tgt := 37) hx hb dX8_back_16 (by decide) (fun c1 => ?_) (fun c1 => ?_)
      · have he := ifp he c1
        refine lv_aload_n hx hb dX8_back_37 rfl (lv_at hl 0 rfl) ?_
        obtain ⟨v2, h3, he⟩ := bn1_i he
        refine cVir (As := []) (rest := []) ⟨hx, hb, hml, hown, hts⟩ hK hA hP hD hS (mX8_things l D k g (s := s) (im := im) (fr := fr) (hd := hd) (nw := nw) (hh := hh) (qs := qs) (qz := qz) (it := it) (th := th) (hm := hm) (ow := ow) (lo := lo) h3) (cwV 0 hts gX8_back_X8_things rfl rfl rfl kX8_things ⟨Nat.le_of_ble_eq_true rfl, Nat.le_of_ble_eq_true rfl⟩) [0, 1, 2, 3, 4, 5, 6, 7, 8, 9] rfl rfl 0 rfl rfl rfl hl.1 rfl (Nat.le_of_ble_eq_true rfl) ⟨Nat.le_refl 0, Nat.le_refl 0⟩ dX8_back_38 (fun H locs hP hD hS => ?_)
        obtain ⟨rfl, rfl⟩ := some2 he
        exact cRi hx hb hr hlk hK rfl hP hD hS dX8_back_41
      · have he := ifn he c1
        refine lv_aload_n hx hb dX8_back_19 rfl (lv_at hl 0 rfl) ?_
        refine va_get (D := D) (ci := 8) (v := .ref (g 1)) (C := RX8) (T := TX8) (N := 13) hx hb hts iX8 hown hK hP 0 rfl rfl 1 (by decide) w2 (fun _ h9 => h9) rfl dX8_back_20 ?_
        refine lv_iload_n hx hb dX8_back_23 rfl (lv_at hl 1 rfl) ?_
        refine lv_aload_n hx hb dX8_back_24 rfl (lv_at hl 0 rfl) ?_
        refine va_get (D := D) (ci := 8) (v := .ref (g 2)) (C := RX8) (T := TX8) (N := 13) hx hb hts iX8 hown hK hP 0 rfl rfl 2 (by decide) w3 (fun _ h9 => h9) rfl dX8_back_25 ?_
        refine lv_iload_n hx hb dX8_back_28 rfl (lv_at hl 1 rfl) ?_
        obtain ⟨h4, he⟩ := grd_i he
        refine va_iald hx hb hK hP 2 0 rfl rfl (ix_in h4) dX8_back_29 ?_
        obtain ⟨h5, he⟩ := grd_i he
        obtain ⟨s6, e7, he⟩ := lt_i he
        refine va_iast hx hb hK hP hD hS 1 0 rfl rfl (ix_in h5) dX8_back_30 (fun H locs hP hD hS => ?_)
        have hP : va_P D vwCl (wModel k g s6 im fr hd nw hh qs qz it th hm ow lo) H := by rw [e7]; exact hP
        have hD : va_D _ (wModel k g s6 im fr hd nw hh qs qz it th hm ow lo) := va_D_adr (by rw [e7]; rfl) hD
        refine lv_iinc (v := (x1 + 1)) (lv' := [(1, .int (x1 + 1)), (0, .ref (g 0))]) hx hb dX8_back_31 hl (k := 1) rfl rfl (by decide) rfl (fun ls hl => ?_)
        refine lv_goto (tgt := 12) hx hb dX8_back_34 (by decide) ?_
        exact ih12 (x1 + 1) s6 he H locs hP hD hS ls (lv_sub hl [1, 0] rfl)
  have hS0 := hS
  have key : ∀ (H : Heap) (locs : List Loc), H = ss.heap → locs = [] → va_P D vwCl (wModel k g s_0 im fr hd nw hh qs qz it th hm ow lo) H → va_S (va_A (wModel k g s_0 im fr hd nw hh qs qz it th hm ow lo) ss.heap.size) ss.heap H locs → W pp l ee ({ frames := 3, cells := 0, slots := 0, locals := 65 } : Room) ss mm ([.ref (g 0)] : List Value).toArray bl me co H locs 0 0 (MQ bl (cQi D k (wModel k g s_0 im fr hd nw hh qs qz it th hm ow lo) ss.heap.size r (wModel k g s' im fr hd nw hh qs qz it th hm ow lo)) ([.ref (g 0)] : List Value).toArray ss 0 0 (va_A (wModel k g s_0 im fr hd nw hh qs qz it th hm ow lo) ss.heap.size)) (F0 mm 0 ls []) := by
    intro H locs _ _ hP hS
    refine lv_aload_n hx hb dX8_back_0 rfl (lv_at hl 0 rfl) ?_
    refine va_get (D := D) (ci := 8) (v := .int hm) (C := RX8) (T := TX8) (N := 13) hx hb hts iX8 hown hK hP 0 rfl rfl 4 (by decide) w1 (fun _ h9 => h9) rfl dX8_back_1 ?_
    refine lv_if_ne (tgt := 10) hx hb dX8_back_4 (by decide) (fun c1001 => ?_) (fun c1001 => ?_)
    · have he := ifn he c1001
      refine lv_iconst (v := 0) hx hb dX8_back_10 (by decide) ?_
      refine lv_istore_n (lv' := [(1, .int 0), (0, .ref (g 0))]) hx hb dX8_back_11 rfl hl (by decide) rfl (fun ls hl => ?_)
      exact B12 600 0 s_0 he H locs hP hD hS ls (lv_sub hl [1, 0] rfl)
    · have he := ifp he c1001
      refine lv_bipush (v := (-3)) hx hb dX8_back_7 (by decide) ?_
      obtain ⟨rfl, rfl⟩ := some2 he
      exact cRi hx hb hr hlk hK rfl hP hD hS dX8_back_9
  exact key ss.heap [] rfl rfl hP hS
theorem kX8_count : yX8_count.cls = RX8 ∧ yX8_count.cls ≠ "java/lang/invoke/MethodHandle" ∧ yX8_count.cls ≠ "java/lang/invoke/VarHandle" ∧ (parseMethodDescriptor yX8_count.desc).map (fun d => d.parameters.length) = some 1 := by decide +kernel
set_option maxRecDepth 100000 in
set_option maxHeartbeats 4000000 in
theorem mX8_count (l : Launch) (D : va_G) (k : Nat → ClassId) (g : Nat → Nat) {s : Nat → Int32} {im : Nat → Int32} {fr : Nat → Int32} {hd : Nat → Int32} {nw : Nat → Int32} {hh : Nat → Int32} {qs : Nat → Int32} {qz : Nat → Int32} {it : Nat → Int64} {th : Int32} {hm : Int32} {ow : Int32} {lo : Int32} {p1 : Int32} {r : Int32}  (he : xX8_count s p1 = some r) : CtI l D k yX8_count wsX8_count ({ frames := 3, cells := 0, slots := 0, locals := 65 } : Room) [.ref (g 0), .int p1] (wModel k g s im fr hd nw hh qs qz it th hm ow lo) r (wModel k g s im fr hd nw hh qs qz it th hm ow lo) := by
  intro sz9
  refine cSt (lv := [(0, .ref (g 0)), (1, .int p1)]) (own := RX8) (cc := cX8_count) (nL := 2) (ret := (some .int)) (by decide +kernel) rfl rfl (Nat.le_of_ble_eq_true rfl) rfl ?_
  intro pp ee ss mm bl me co hsz hC0 hP hD hS ls hl
  subst hsz
  obtain ⟨hx, hb, hr, hml, hown, hts, hK, hlk⟩ := hC0
  have hA : ∀ q, ss.heap.size ≤ q → va_A (wModel k g s im fr hd nw hh qs qz it th hm ow lo) ss.heap.size q := fun q h => Or.inr h
  have iX8 : ∀ w ∈ wsX80, w ∈ wsX8_count := fun _ h => List.mem_cons_of_mem _ (List.mem_append_right _ h)
  have w1 := hts (.fieldLink RX8 7 "DeadListPoolModel" "s" "[I") (List.mem_of_getElem? (i := 1) rfl)
  have hS0 := hS
  have key : ∀ (H : Heap) (locs : List Loc), H = ss.heap → locs = [] → va_P D vwCl (wModel k g s im fr hd nw hh qs qz it th hm ow lo) H → va_S (va_A (wModel k g s im fr hd nw hh qs qz it th hm ow lo) ss.heap.size) ss.heap H locs → W pp l ee ({ frames := 3, cells := 0, slots := 0, locals := 65 } : Room) ss mm ([.ref (g 0), .int p1] : List Value).toArray bl me co H locs 0 0 (MQ bl (cQi D k (wModel k g s im fr hd nw hh qs qz it th hm ow lo) ss.heap.size r (wModel k g s im fr hd nw hh qs qz it th hm ow lo)) ([.ref (g 0), .int p1] : List Value).toArray ss 0 0 (va_A (wModel k g s im fr hd nw hh qs qz it th hm ow lo) ss.heap.size)) (F0 mm 0 ls []) := by
    intro H locs _ _ hP hS
    refine lv_iload_n hx hb dX8_count_0 rfl (lv_at hl 1 rfl) ?_
    by_cases c1001 : p1 = 0
    · have he := ifp he c1001
      refine lv_tableIn (off := 31) (tgt := 32) hx hb dX8_count_1 (by rw [c1001]; decide) (by rw [c1001]; decide) (by rw [c1001]; rfl) (by decide) ?_
      refine lv_aload_n hx hb dX8_count_32 rfl (lv_at hl 0 rfl) ?_
      obtain ⟨v1002, h1003, he⟩ := bn1_i he
      refine cVir (As := []) (rest := []) ⟨hx, hb, hml, hown, hts⟩ hK hA hP hD hS (mX8_things l D k g (s := s) (im := im) (fr := fr) (hd := hd) (nw := nw) (hh := hh) (qs := qs) (qz := qz) (it := it) (th := th) (hm := hm) (ow := ow) (lo := lo) h1003) (cwV 0 hts gX8_count_X8_things rfl rfl rfl kX8_things ⟨Nat.le_of_ble_eq_true rfl, Nat.le_of_ble_eq_true rfl⟩) [0, 1, 2, 3, 4, 5, 6, 7, 8, 9] rfl rfl 0 rfl rfl rfl hl.1 rfl (Nat.le_of_ble_eq_true rfl) ⟨Nat.le_refl 0, Nat.le_refl 0⟩ dX8_count_33 (fun H locs hP hD hS => ?_)
      obtain rfl := some1 he
      exact cRi hx hb hr hlk hK rfl hP hD hS dX8_count_36
    · have he := ifn he c1001
      by_cases c1004 : p1 = 1
      · have he := ifp he c1004
        refine lv_tableIn (off := 36) (tgt := 37) hx hb dX8_count_1 (by rw [c1004]; decide) (by rw [c1004]; decide) (by rw [c1004]; rfl) (by decide) ?_
        refine lv_aload_n hx hb dX8_count_37 rfl (lv_at hl 0 rfl) ?_
        obtain ⟨v1005, h1006, he⟩ := bn1_i he
        refine cVir (As := []) (rest := []) ⟨hx, hb, hml, hown, hts⟩ hK hA hP hD hS (mX8_blocks l D k g (s := s) (im := im) (fr := fr) (hd := hd) (nw := nw) (hh := hh) (qs := qs) (qz := qz) (it := it) (th := th) (hm := hm) (ow := ow) (lo := lo) h1006) (cwV 0 hts gX8_count_X8_blocks rfl rfl rfl kX8_blocks ⟨Nat.le_of_ble_eq_true rfl, Nat.le_of_ble_eq_true rfl⟩) [0, 1, 2, 3, 4, 5, 6, 7, 8, 9] rfl rfl 0 rfl rfl rfl hl.1 rfl (Nat.le_of_ble_eq_true rfl) ⟨Nat.le_refl 0, Nat.le_refl 0⟩ dX8_count_38 (fun H locs hP hD hS => ?_)
        obtain rfl := some1 he
        exact cRi hx hb hr hlk hK rfl hP hD hS dX8_count_41
      · have he := ifn he c1004
        by_cases c1007 : p1 = 2
        · have he := ifp he c1007
          refine lv_tableIn (off := 41) (tgt := 42) hx hb dX8_count_1 (by rw [c1007]; decide) (by rw [c1007]; decide) (by rw [c1007]; rfl) (by decide) ?_
          refine lv_aload_n hx hb dX8_count_42 rfl (lv_at hl 0 rfl) ?_
          refine va_get (D := D) (ci := 8) (v := .ref (g 1)) (C := RX8) (T := TX8) (N := 13) hx hb hts iX8 hown hK hP 0 rfl rfl 1 (by decide) w1 (fun _ h9 => h9) rfl dX8_count_43 ?_
          refine lv_iconst (v := 0) hx hb dX8_count_46 (by decide) ?_
          obtain ⟨h1008, he⟩ := grd_i he
          refine va_iald hx hb hK hP 1 0 rfl rfl (ix_in h1008) dX8_count_47 ?_
          obtain rfl := some1 he
          exact cRi hx hb hr hlk hK rfl hP hD hS dX8_count_48
        · have he := ifn he c1007
          by_cases c1009 : p1 = 3
          · have he := ifp he c1009
            refine lv_tableIn (off := 48) (tgt := 49) hx hb dX8_count_1 (by rw [c1009]; decide) (by rw [c1009]; decide) (by rw [c1009]; rfl) (by decide) ?_
            refine lv_aload_n hx hb dX8_count_49 rfl (lv_at hl 0 rfl) ?_
            refine va_get (D := D) (ci := 8) (v := .ref (g 1)) (C := RX8) (T := TX8) (N := 13) hx hb hts iX8 hown hK hP 0 rfl rfl 1 (by decide) w1 (fun _ h9 => h9) rfl dX8_count_50 ?_
            refine lv_iconst (v := 1) hx hb dX8_count_53 (by decide) ?_
            obtain ⟨h1010, he⟩ := grd_i he
            refine va_iald hx hb hK hP 1 0 rfl rfl (ix_in h1010) dX8_count_54 ?_
            obtain rfl := some1 he
            exact cRi hx hb hr hlk hK rfl hP hD hS dX8_count_55
          · have he := ifn he c1009
            have tc1001 : Int32.toInt p1 ≠ 0 := fun z => c1001 (Int32.toInt_inj.mp z)
            have tc1004 : Int32.toInt p1 ≠ 1 := fun z => c1004 (Int32.toInt_inj.mp z)
            have tc1007 : Int32.toInt p1 ≠ 2 := fun z => c1007 (Int32.toInt_inj.mp z)
            have tc1009 : Int32.toInt p1 ≠ 3 := fun z => c1009 (Int32.toInt_inj.mp z)
            refine lv_tableOut (tgt := 56) hx hb dX8_count_1 (by omega) (by decide) ?_
            refine lv_bipush (v := (-2)) hx hb dX8_count_56 (by decide) ?_
            obtain rfl := some1 he
            exact cRi hx hb hr hlk hK rfl hP hD hS dX8_count_58
  exact key ss.heap [] rfl rfl hP hS
