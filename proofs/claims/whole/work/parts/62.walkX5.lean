theorem kX5_size : yX5_size.cls = RX5 ∧ yX5_size.cls ≠ "java/lang/invoke/MethodHandle" ∧ yX5_size.cls ≠ "java/lang/invoke/VarHandle" ∧ (parseMethodDescriptor yX5_size.desc).map (fun d => d.parameters.length) = some 0 := by decide +kernel
set_option maxRecDepth 100000 in
set_option maxHeartbeats 4000000 in
theorem mX5_size (l : Launch) (D : va_G) (k : Nat → ClassId) (t : Nat → Nat) {so : Int32} {le : Int32} {ro : Nat → Int64}  {r : Int32}  (he : xX5_size le = some r) : CtI l D k yX5_size wsX5_size ({ frames := 0, cells := 0, slots := 0, locals := 0 } : Room) [.ref (t 0)] (wSheet k t so le ro) r (wSheet k t so le ro) := by
  intro sz9
  refine cSt (lv := [(0, .ref (t 0))]) (own := RX5) (cc := cX5_size) (nL := 1) (ret := (some .int)) (by decide +kernel) rfl rfl (Nat.le_of_ble_eq_true rfl) rfl ?_
  intro pp ee ss mm bl me co hsz hC0 hP hD hS ls hl
  subst hsz
  obtain ⟨hx, hb, hr, hml, hown, hts, hK, hlk⟩ := hC0
  have hA : ∀ q, ss.heap.size ≤ q → va_A (wSheet k t so le ro) ss.heap.size q := fun q h => Or.inr h
  have iX5 : ∀ w ∈ wsX50, w ∈ wsX5_size := fun _ h => List.mem_cons_of_mem _ (List.mem_append_right _ h)
  have w1 := hts (.fieldLink RX5 19 "DeadListPool$Sheet" "length" "I") (List.mem_of_getElem? (i := 1) rfl)
  have hS0 := hS
  have key : ∀ (H : Heap) (locs : List Loc), H = ss.heap → locs = [] → va_P D vwCl (wSheet k t so le ro) H → va_S (va_A (wSheet k t so le ro) ss.heap.size) ss.heap H locs → W pp l ee ({ frames := 0, cells := 0, slots := 0, locals := 0 } : Room) ss mm ([.ref (t 0)] : List Value).toArray bl me co H locs 0 0 (MQ bl (cQi D k (wSheet k t so le ro) ss.heap.size r (wSheet k t so le ro)) ([.ref (t 0)] : List Value).toArray ss 0 0 (va_A (wSheet k t so le ro) ss.heap.size)) (F0 mm 0 ls []) := by
    intro H locs _ _ hP hS
    refine lv_aload_n hx hb dX5_size_0 rfl (lv_at hl 0 rfl) ?_
    refine va_get (D := D) (ci := 5) (v := .int le) (C := RX5) (T := TX5) (N := 3) hx hb hts iX5 hown hK hP 0 rfl rfl 2 (by decide) w1 (fun _ h9 => h9) rfl dX5_size_1 ?_
    obtain rfl := some1 he
    exact cRi hx hb hr hlk hK rfl hP hD hS dX5_size_4
  exact key ss.heap [] rfl rfl hP hS
theorem kX5_has : yX5_has.cls = RX5 ∧ yX5_has.cls ≠ "java/lang/invoke/MethodHandle" ∧ yX5_has.cls ≠ "java/lang/invoke/VarHandle" ∧ (parseMethodDescriptor yX5_has.desc).map (fun d => d.parameters.length) = some 1 := by decide +kernel
set_option maxRecDepth 100000 in
set_option maxHeartbeats 4000000 in
theorem mX5_has (l : Launch) (D : va_G) (k : Nat → ClassId) (t : Nat → Nat) {so : Int32} {le : Int32} {ro : Nat → Int64} {p1 : Int32} {r : Int32}  (he : xX5_has le p1 = some r) : CtI l D k yX5_has wsX5_has ({ frames := 0, cells := 0, slots := 0, locals := 0 } : Room) [.ref (t 0), .int p1] (wSheet k t so le ro) r (wSheet k t so le ro) := by
  intro sz9
  refine cSt (lv := [(0, .ref (t 0)), (1, .int p1)]) (own := RX5) (cc := cX5_has) (nL := 2) (ret := (some .boolean)) (by decide +kernel) rfl rfl (Nat.le_of_ble_eq_true rfl) rfl ?_
  intro pp ee ss mm bl me co hsz hC0 hP hD hS ls hl
  subst hsz
  obtain ⟨hx, hb, hr, hml, hown, hts, hK, hlk⟩ := hC0
  have hA : ∀ q, ss.heap.size ≤ q → va_A (wSheet k t so le ro) ss.heap.size q := fun q h => Or.inr h
  have iX5 : ∀ w ∈ wsX50, w ∈ wsX5_has := fun _ h => List.mem_cons_of_mem _ (List.mem_append_right _ h)
  have w1 := hts (.fieldLink RX5 19 "DeadListPool$Sheet" "length" "I") (List.mem_of_getElem? (i := 1) rfl)
  have hS0 := hS
  have key : ∀ (H : Heap) (locs : List Loc), H = ss.heap → locs = [] → va_P D vwCl (wSheet k t so le ro) H → va_S (va_A (wSheet k t so le ro) ss.heap.size) ss.heap H locs → W pp l ee ({ frames := 0, cells := 0, slots := 0, locals := 0 } : Room) ss mm ([.ref (t 0), .int p1] : List Value).toArray bl me co H locs 0 0 (MQ bl (cQi D k (wSheet k t so le ro) ss.heap.size r (wSheet k t so le ro)) ([.ref (t 0), .int p1] : List Value).toArray ss 0 0 (va_A (wSheet k t so le ro) ss.heap.size)) (F0 mm 0 ls []) := by
    intro H locs _ _ hP hS
    refine lv_iload_n hx hb dX5_has_0 rfl (lv_at hl 1 rfl) ?_
    refine lv_if_lt (tgt := 22) hx hb dX5_has_1 (by decide) (fun c1001 => ?_) (fun c1001 => ?_)
    · have he := ifp he c1001
      refine lv_iconst (v := 0) hx hb dX5_has_22 (by decide) ?_
      obtain rfl := some1 he
      exact cRi hx hb hr hlk hK rfl hP hD hS dX5_has_23
    · have he := ifn he c1001
      refine lv_iload_n hx hb dX5_has_4 rfl (lv_at hl 1 rfl) ?_
      refine lv_aload_n hx hb dX5_has_5 rfl (lv_at hl 0 rfl) ?_
      refine va_get (D := D) (ci := 5) (v := .int le) (C := RX5) (T := TX5) (N := 3) hx hb hts iX5 hown hK hP 0 rfl rfl 2 (by decide) w1 (fun _ h9 => h9) rfl dX5_has_6 ?_
      refine lv_icmp_ge (tgt := 22) hx hb dX5_has_9 (by decide) (fun c1002 => ?_) (fun c1002 => ?_)
      · have he := ifp he c1002
        refine lv_iconst (v := 0) hx hb dX5_has_22 (by decide) ?_
        obtain rfl := some1 he
        exact cRi hx hb hr hlk hK rfl hP hD hS dX5_has_23
      · have he := ifn he c1002
        refine lv_iload_n hx hb dX5_has_12 rfl (lv_at hl 1 rfl) ?_
        refine lv_bipush (v := 40) hx hb dX5_has_13 (by decide) ?_
        refine lv_icmp_ge (tgt := 22) hx hb dX5_has_15 (by decide) (fun c1003 => ?_) (fun c1003 => ?_)
        · have he := ifp he c1003
          refine lv_iconst (v := 0) hx hb dX5_has_22 (by decide) ?_
          obtain rfl := some1 he
          exact cRi hx hb hr hlk hK rfl hP hD hS dX5_has_23
        · have he := ifn he c1003
          refine lv_iconst (v := 1) hx hb dX5_has_18 (by decide) ?_
          refine lv_goto (tgt := 23) hx hb dX5_has_19 (by decide) ?_
          obtain rfl := some1 he
          exact cRi hx hb hr hlk hK rfl hP hD hS dX5_has_23
  exact key ss.heap [] rfl rfl hP hS
theorem kX5_at : yX5_at.cls = RX5 ∧ yX5_at.cls ≠ "java/lang/invoke/MethodHandle" ∧ yX5_at.cls ≠ "java/lang/invoke/VarHandle" ∧ (parseMethodDescriptor yX5_at.desc).map (fun d => d.parameters.length) = some 1 := by decide +kernel
set_option maxRecDepth 100000 in
set_option maxHeartbeats 4000000 in
theorem mX5_at (l : Launch) (D : va_G) (k : Nat → ClassId) (t : Nat → Nat) {so : Int32} {le : Int32} {ro : Nat → Int64} {p1 : Int32} {r : Int64}  (he : xX5_at le ro p1 = some r) : CtL l D k yX5_at wsX5_at ({ frames := 1, cells := 0, slots := 0, locals := 21 } : Room) [.ref (t 0), .int p1] (wSheet k t so le ro) r (wSheet k t so le ro) := by
  intro sz9
  refine cSt (lv := [(0, .ref (t 0)), (1, .int p1)]) (own := RX5) (cc := cX5_at) (nL := 2) (ret := (some .long)) (by decide +kernel) rfl rfl (Nat.le_of_ble_eq_true rfl) rfl ?_
  intro pp ee ss mm bl me co hsz hC0 hP hD hS ls hl
  subst hsz
  obtain ⟨hx, hb, hr, hml, hown, hts, hK, hlk⟩ := hC0
  have hA : ∀ q, ss.heap.size ≤ q → va_A (wSheet k t so le ro) ss.heap.size q := fun q h => Or.inr h
  have iX5 : ∀ w ∈ wsX50, w ∈ wsX5_at := fun _ h => List.mem_cons_of_mem _ (List.mem_append_right _ h)
  have w1 := hts (.fieldLink RX5 9 "DeadListPool$Sheet" "row" "[J") (List.mem_of_getElem? (i := 1) rfl)
  have hS0 := hS
  have key : ∀ (H : Heap) (locs : List Loc), H = ss.heap → locs = [] → va_P D vwCl (wSheet k t so le ro) H → va_S (va_A (wSheet k t so le ro) ss.heap.size) ss.heap H locs → W pp l ee ({ frames := 1, cells := 0, slots := 0, locals := 21 } : Room) ss mm ([.ref (t 0), .int p1] : List Value).toArray bl me co H locs 0 0 (MQ bl (cQl D k (wSheet k t so le ro) ss.heap.size r (wSheet k t so le ro)) ([.ref (t 0), .int p1] : List Value).toArray ss 0 0 (va_A (wSheet k t so le ro) ss.heap.size)) (F0 mm 0 ls []) := by
    intro H locs _ _ hP hS
    refine lv_aload_n hx hb dX5_at_0 rfl (lv_at hl 0 rfl) ?_
    refine lv_iload_n hx hb dX5_at_1 rfl (lv_at hl 1 rfl) ?_
    obtain ⟨v1001, h1002, he⟩ := bn1_i he
    refine cVir (As := [.int p1]) (rest := []) ⟨hx, hb, hml, hown, hts⟩ hK hA hP hD hS (mX5_has l D k t (so := so) (le := le) (ro := ro) h1002) (cwV 1 hts gX5_at_X5_has rfl rfl rfl kX5_has ⟨Nat.le_of_ble_eq_true rfl, Nat.le_of_ble_eq_true rfl⟩) [0, 1] rfl rfl 0 rfl rfl rfl hl.1 rfl (Nat.le_of_ble_eq_true rfl) ⟨Nat.le_refl 0, Nat.le_refl 0⟩ dX5_at_2 (fun H locs hP hD hS => ?_)
    refine lv_if_eq (tgt := 17) hx hb dX5_at_5 (by decide) (fun c1003 => ?_) (fun c1003 => ?_)
    · have he := ifp he c1003
      refine lv_lconst (v := 0) hx hb dX5_at_17 (by decide) ?_
      obtain rfl := some1 he
      exact cRl hx hb hr hlk hK hP hD hS dX5_at_18
    · have he := ifn he c1003
      refine lv_aload_n hx hb dX5_at_8 rfl (lv_at hl 0 rfl) ?_
      refine va_get (D := D) (ci := 5) (v := .ref (t 1)) (C := RX5) (T := TX5) (N := 3) hx hb hts iX5 hown hK hP 0 rfl rfl 0 (by decide) w1 (fun _ h9 => h9) rfl dX5_at_9 ?_
      refine lv_iload_n hx hb dX5_at_12 rfl (lv_at hl 1 rfl) ?_
      obtain ⟨h1004, he⟩ := grd_i he
      refine va_lald hx hb hK hP 1 1 rfl rfl (ix_in h1004) dX5_at_13 ?_
      refine lv_goto (tgt := 18) hx hb dX5_at_14 (by decide) ?_
      obtain rfl := some1 he
      exact cRl hx hb hr hlk hK hP hD hS dX5_at_18
  exact key ss.heap [] rfl rfl hP hS
theorem kX5_layAside : yX5_layAside.cls = RX5 ∧ yX5_layAside.cls ≠ "java/lang/invoke/MethodHandle" ∧ yX5_layAside.cls ≠ "java/lang/invoke/VarHandle" ∧ (parseMethodDescriptor yX5_layAside.desc).map (fun d => d.parameters.length) = some 0 := by decide +kernel
set_option maxRecDepth 100000 in
set_option maxHeartbeats 4000000 in
theorem mX5_layAside (l : Launch) (D : va_G) (k : Nat → ClassId) (t : Nat → Nat) {so_0 : Int32} {le_0 : Int32} {ro : Nat → Int64}  {so' : Int32} {le' : Int32} (he : xX5_layAside so_0 le_0 = some (so', le')) : CtV l D k yX5_layAside wsX5_layAside ({ frames := 0, cells := 0, slots := 0, locals := 0 } : Room) [.ref (t 0)] (wSheet k t so_0 le_0 ro) (wSheet k t so' le' ro) := by
  intro sz9
  refine cSt (lv := [(0, .ref (t 0))]) (own := RX5) (cc := cX5_layAside) (nL := 1) (ret := none) (by decide +kernel) rfl rfl (Nat.le_of_ble_eq_true rfl) rfl ?_
  intro pp ee ss mm bl me co hsz hC0 hP hD hS ls hl
  subst hsz
  obtain ⟨hx, hb, hr, hml, hown, hts, hK, hlk⟩ := hC0
  have hA : ∀ q, ss.heap.size ≤ q → va_A (wSheet k t so_0 le_0 ro) ss.heap.size q := fun q h => Or.inr h
  have iX5 : ∀ w ∈ wsX50, w ∈ wsX5_layAside := fun _ h => List.mem_cons_of_mem _ (List.mem_append_right _ h)
  have w1 := hts (.fieldLink RX5 15 "DeadListPool$Sheet" "sort" "I") (List.mem_of_getElem? (i := 1) rfl)
  have w2 := hts (.fieldLink RX5 19 "DeadListPool$Sheet" "length" "I") (List.mem_of_getElem? (i := 2) rfl)
  have hS0 := hS
  have key : ∀ (H : Heap) (locs : List Loc), H = ss.heap → locs = [] → va_P D vwCl (wSheet k t so_0 le_0 ro) H → va_S (va_A (wSheet k t so_0 le_0 ro) ss.heap.size) ss.heap H locs → W pp l ee ({ frames := 0, cells := 0, slots := 0, locals := 0 } : Room) ss mm ([.ref (t 0)] : List Value).toArray bl me co H locs 0 0 (MQ bl (cQv D k (wSheet k t so_0 le_0 ro) ss.heap.size (wSheet k t so' le' ro)) ([.ref (t 0)] : List Value).toArray ss 0 0 (va_A (wSheet k t so_0 le_0 ro) ss.heap.size)) (F0 mm 0 ls []) := by
    intro H locs _ _ hP hS
    refine lv_aload_n hx hb dX5_layAside_0 rfl (lv_at hl 0 rfl) ?_
    refine lv_iconst (v := (-1)) hx hb dX5_layAside_1 (by decide) ?_
    obtain ⟨so1001, e1002, he⟩ := lt_i he
    refine va_put (D := D) (ci := 5) (v := .int (-1)) (ty := .int) (C := RX5) (T := TX5) (N := 3) hx hb hts iX5 tyX5 tyX5_ok nmX5 hown hK hP hD hS 0 rfl rfl 1 (by decide) w1 (fun _ h9 => h9) rfl (by decide +kernel) rfl rfl (Nat.le_of_ble_eq_true rfl) dX5_layAside_2 (fun H locs hP hD hS => ?_)
    have hP : va_P D vwCl (wSheet k t so1001 le_0 ro) H := by rw [e1002]; exact hP
    have hD : va_D _ (wSheet k t so1001 le_0 ro) := va_D_adr (by rw [e1002]; rfl) hD
    refine lv_aload_n hx hb dX5_layAside_5 rfl (lv_at hl 0 rfl) ?_
    refine lv_iconst (v := 0) hx hb dX5_layAside_6 (by decide) ?_
    obtain ⟨le1003, e1004, he⟩ := lt_i he
    refine va_put (D := D) (ci := 5) (v := .int 0) (ty := .int) (C := RX5) (T := TX5) (N := 3) hx hb hts iX5 tyX5 tyX5_ok nmX5 hown hK hP hD hS 0 rfl rfl 2 (by decide) w2 (fun _ h9 => h9) rfl (by decide +kernel) rfl rfl (Nat.le_of_ble_eq_true rfl) dX5_layAside_7 (fun H locs hP hD hS => ?_)
    have hP : va_P D vwCl (wSheet k t so1001 le1003 ro) H := by rw [e1004]; exact hP
    have hD : va_D _ (wSheet k t so1001 le1003 ro) := va_D_adr (by rw [e1004]; rfl) hD
    obtain ⟨rfl, rfl⟩ := some2 he
    exact cRv hx hb hr hlk hK hP hD hS dX5_layAside_10
  exact key ss.heap [] rfl rfl hP hS
theorem kX5_layOut : yX5_layOut.cls = RX5 ∧ yX5_layOut.cls ≠ "java/lang/invoke/MethodHandle" ∧ yX5_layOut.cls ≠ "java/lang/invoke/VarHandle" ∧ (parseMethodDescriptor yX5_layOut.desc).map (fun d => d.parameters.length) = some 2 := by decide +kernel
set_option maxRecDepth 100000 in
set_option maxHeartbeats 4000000 in
theorem mX5_layOut (l : Launch) (D : va_G) (k : Nat → ClassId) (t : Nat → Nat) {so_0 : Int32} {le_0 : Int32} {ro_0 : Nat → Int64} {p1 : Int32} {p2 : Int32} {so' : Int32} {le' : Int32} {ro' : Nat → Int64} (he : xX5_layOut so_0 le_0 ro_0 p1 p2 = some (so', le', ro')) : CtV l D k yX5_layOut wsX5_layOut ({ frames := 1, cells := 0, slots := 0, locals := 23 } : Room) [.ref (t 0), .int p1, .int p2] (wSheet k t so_0 le_0 ro_0) (wSheet k t so' le' ro') := by
  intro sz9
  refine cSt (lv := [(0, .ref (t 0)), (1, .int p1), (2, .int p2)]) (own := RX5) (cc := cX5_layOut) (nL := 4) (ret := none) (by decide +kernel) rfl rfl (Nat.le_of_ble_eq_true rfl) rfl ?_
  intro pp ee ss mm bl me co hsz hC0 hP hD hS ls hl
  subst hsz
  obtain ⟨hx, hb, hr, hml, hown, hts, hK, hlk⟩ := hC0
  have hA : ∀ q, ss.heap.size ≤ q → va_A (wSheet k t so_0 le_0 ro_0) ss.heap.size q := fun q h => Or.inr h
  have iX5 : ∀ w ∈ wsX50, w ∈ wsX5_layOut := fun _ h => List.mem_cons_of_mem _ (List.mem_append_right _ h)
  have w10 := hts (.fieldLink RX5 9 "DeadListPool$Sheet" "row" "[J") (List.mem_of_getElem? (i := 10) rfl)
  have w1 := hts (.fieldLink RX5 15 "DeadListPool$Sheet" "sort" "I") (List.mem_of_getElem? (i := 1) rfl)
  have w2 := hts (.methodLink RX5 22 Lib.Math.min.name) (List.mem_of_getElem? (i := 2) rfl)
  have w3 := hts (.static Lib.Math.min.name) (List.mem_of_getElem? (i := 3) rfl)
  have w4 := hts (.initialized "java/lang/Math") (List.mem_of_getElem? (i := 4) rfl)
  have w5 := hts (.code Lib.Math.min.name Lib.Math.min.code 2 (some .int)) (List.mem_of_getElem? (i := 5) rfl)
  have w6 := hts (.methodLink RX5 28 Lib.Math.max.name) (List.mem_of_getElem? (i := 6) rfl)
  have w7 := hts (.static Lib.Math.max.name) (List.mem_of_getElem? (i := 7) rfl)
  have w8 := hts (.code Lib.Math.max.name Lib.Math.max.code 2 (some .int)) (List.mem_of_getElem? (i := 8) rfl)
  have w9 := hts (.fieldLink RX5 19 "DeadListPool$Sheet" "length" "I") (List.mem_of_getElem? (i := 9) rfl)
  have B21 : ∀ (n21 : Nat) (x3 : Int32) (so : Int32) (le : Int32) (ro : Nat → Int64), xX5_layOut_21 n21 x3 so le ro = some (so', le', ro') → ∀ (H : Heap) (locs : List Loc), va_P D vwCl (wSheet k t so le ro) H → va_D (va_A (wSheet k t so_0 le_0 ro_0) ss.heap.size) (wSheet k t so le ro) → va_S (va_A (wSheet k t so_0 le_0 ro_0) ss.heap.size) ss.heap H locs → ∀ ls : Array Slot, lv_has ls 4 [(0, .ref (t 0)), (3, .int x3)] → W pp l ee ({ frames := 1, cells := 0, slots := 0, locals := 23 } : Room) ss mm ([.ref (t 0), .int p1, .int p2] : List Value).toArray bl me co H locs 0 0 (MQ bl (cQv D k (wSheet k t so_0 le_0 ro_0) ss.heap.size (wSheet k t so' le' ro')) ([.ref (t 0), .int p1, .int p2] : List Value).toArray ss 0 0 (va_A (wSheet k t so_0 le_0 ro_0) ss.heap.size)) (F0 mm 21 ls []) := by
    intro n21
    induction n21 with
    | zero =>
      intro x3 so le ro he
      exact absurd (show (none : Option (Int32 × Int32 × (Nat → Int64))) = some (so', le', ro') from he) (by simp)
    | succ n21 ih21 =>
      intro x3 so le ro he H locs hP hD hS ls hl
      refine lv_iload_n hx hb dX5_layOut_21 rfl (lv_at hl 1 rfl) ?_
      refine lv_bipush (v := 40) hx hb dX5_layOut_22 (by decide) ?_
      refine lv_icmp_ge (tgt := 40) hx hb dX5_layOut_24 (by decide) (fun c1 => ?_) (fun c1 => ?_)
      · have he := ifp he c1
        obtain ⟨rfl, rfl, rfl⟩ := some3 he
        exact cRv hx hb hr hlk hK hP hD hS dX5_layOut_40
      · have he := ifn he c1
        refine lv_aload_n hx hb dX5_layOut_27 rfl (lv_at hl 0 rfl) ?_
        refine va_get (D := D) (ci := 5) (v := .ref (t 1)) (C := RX5) (T := TX5) (N := 3) hx hb hts iX5 hown hK hP 0 rfl rfl 0 (by decide) w10 (fun _ h9 => h9) rfl dX5_layOut_28 ?_
        refine lv_iload_n hx hb dX5_layOut_31 rfl (lv_at hl 1 rfl) ?_
        refine lv_lconst (v := 0) hx hb dX5_layOut_32 (by decide) ?_
        obtain ⟨h2, he⟩ := grd_i he
        obtain ⟨ro3, e4, he⟩ := lt_i he
        refine va_last hx hb hK hP hD hS 1 1 rfl rfl (ix_in h2) dX5_layOut_33 (fun H locs hP hD hS => ?_)
        have hP : va_P D vwCl (wSheet k t so le ro3) H := by rw [e4]; exact hP
        have hD : va_D _ (wSheet k t so le ro3) := va_D_adr (by rw [e4]; rfl) hD
        refine lv_iinc (v := (x3 + 1)) (lv' := [(3, .int (x3 + 1)), (0, .ref (t 0))]) hx hb dX5_layOut_34 hl (k := 1) rfl rfl (by decide) rfl (fun ls hl => ?_)
        refine lv_goto (tgt := 21) hx hb dX5_layOut_37 (by decide) ?_
        exact ih21 (x3 + 1) so le ro3 he H locs hP hD hS ls (lv_sub hl [1, 0] rfl)
  have hS0 := hS
  have key : ∀ (H : Heap) (locs : List Loc), H = ss.heap → locs = [] → va_P D vwCl (wSheet k t so_0 le_0 ro_0) H → va_S (va_A (wSheet k t so_0 le_0 ro_0) ss.heap.size) ss.heap H locs → W pp l ee ({ frames := 1, cells := 0, slots := 0, locals := 23 } : Room) ss mm ([.ref (t 0), .int p1, .int p2] : List Value).toArray bl me co H locs 0 0 (MQ bl (cQv D k (wSheet k t so_0 le_0 ro_0) ss.heap.size (wSheet k t so' le' ro')) ([.ref (t 0), .int p1, .int p2] : List Value).toArray ss 0 0 (va_A (wSheet k t so_0 le_0 ro_0) ss.heap.size)) (F0 mm 0 ls []) := by
    intro H locs _ _ hP hS
    refine lv_aload_n hx hb dX5_layOut_0 rfl (lv_at hl 0 rfl) ?_
    refine lv_iload_n hx hb dX5_layOut_1 rfl (lv_at hl 1 rfl) ?_
    obtain ⟨so1001, e1002, he⟩ := lt_i he
    refine va_put (D := D) (ci := 5) (v := .int p1) (ty := .int) (C := RX5) (T := TX5) (N := 3) hx hb hts iX5 tyX5 tyX5_ok nmX5 hown hK hP hD hS 0 rfl rfl 1 (by decide) w1 (fun _ h9 => h9) rfl (by decide +kernel) rfl rfl (Nat.le_of_ble_eq_true rfl) dX5_layOut_2 (fun H locs hP hD hS => ?_)
    have hP : va_P D vwCl (wSheet k t so1001 le_0 ro_0) H := by rw [e1002]; exact hP
    have hD : va_D _ (wSheet k t so1001 le_0 ro_0) := va_D_adr (by rw [e1002]; rfl) hD
    refine lv_aload_n hx hb dX5_layOut_5 rfl (lv_at hl 0 rfl) ?_
    refine lv_iconst (v := 0) hx hb dX5_layOut_6 (by decide) ?_
    refine lv_iload_n hx hb dX5_layOut_7 rfl (lv_at hl 2 rfl) ?_
    refine lv_bipush (v := 40) hx hb dX5_layOut_8 (by decide) ?_
    refine va_mmin hx hb (hml.trans hl.1.symm) hown w2 w3 w4 w5 (Nat.le_of_ble_eq_true rfl) (Nat.le_of_ble_eq_true rfl) (Nat.le_refl 0) (Nat.le_refl 0) dX5_layOut_10 ?_
    refine va_mmax hx hb (hml.trans hl.1.symm) hown w6 w7 w4 w8 (Nat.le_of_ble_eq_true rfl) (Nat.le_of_ble_eq_true rfl) (Nat.le_refl 0) (Nat.le_refl 0) dX5_layOut_13 ?_
    obtain ⟨le1003, e1004, he⟩ := lt_i he
    refine va_put (D := D) (ci := 5) (v := .int (if 0 < (if 40 < p2 then 40 else p2) then (if 40 < p2 then 40 else p2) else 0)) (ty := .int) (C := RX5) (T := TX5) (N := 3) hx hb hts iX5 tyX5 tyX5_ok nmX5 hown hK hP hD hS 0 rfl rfl 2 (by decide) w9 (fun _ h9 => h9) rfl (by decide +kernel) rfl rfl (Nat.le_of_ble_eq_true rfl) dX5_layOut_16 (fun H locs hP hD hS => ?_)
    have hP : va_P D vwCl (wSheet k t so1001 le1003 ro_0) H := by rw [e1004]; exact hP
    have hD : va_D _ (wSheet k t so1001 le1003 ro_0) := va_D_adr (by rw [e1004]; rfl) hD
    refine lv_iconst (v := 0) hx hb dX5_layOut_19 (by decide) ?_
    refine lv_istore_n (lv' := [(3, .int 0), (0, .ref (t 0)), (1, .int p1), (2, .int p2)]) hx hb dX5_layOut_20 rfl hl (by decide) rfl (fun ls hl => ?_)
    exact B21 600 0 so1001 le1003 ro_0 he H locs hP hD hS ls (lv_sub hl [1, 0] rfl)
  exact key ss.heap [] rfl rfl hP hS
theorem kX5_isMissing : yX5_isMissing.cls = RX5 ∧ yX5_isMissing.cls ≠ "java/lang/invoke/MethodHandle" ∧ yX5_isMissing.cls ≠ "java/lang/invoke/VarHandle" ∧ (parseMethodDescriptor yX5_isMissing.desc).map (fun d => d.parameters.length) = some 0 := by decide +kernel
set_option maxRecDepth 100000 in
set_option maxHeartbeats 4000000 in
theorem mX5_isMissing (l : Launch) (D : va_G) (k : Nat → ClassId) (t : Nat → Nat) {so : Int32} {le : Int32} {ro : Nat → Int64}  {r : Int32}  (he : xX5_isMissing so = some r) : CtI l D k yX5_isMissing wsX5_isMissing ({ frames := 0, cells := 0, slots := 0, locals := 0 } : Room) [.ref (t 0)] (wSheet k t so le ro) r (wSheet k t so le ro) := by
  intro sz9
  refine cSt (lv := [(0, .ref (t 0))]) (own := RX5) (cc := cX5_isMissing) (nL := 1) (ret := (some .boolean)) (by decide +kernel) rfl rfl (Nat.le_of_ble_eq_true rfl) rfl ?_
  intro pp ee ss mm bl me co hsz hC0 hP hD hS ls hl
  subst hsz
  obtain ⟨hx, hb, hr, hml, hown, hts, hK, hlk⟩ := hC0
  have hA : ∀ q, ss.heap.size ≤ q → va_A (wSheet k t so le ro) ss.heap.size q := fun q h => Or.inr h
  have iX5 : ∀ w ∈ wsX50, w ∈ wsX5_isMissing := fun _ h => List.mem_cons_of_mem _ (List.mem_append_right _ h)
  have w1 := hts (.fieldLink RX5 15 "DeadListPool$Sheet" "sort" "I") (List.mem_of_getElem? (i := 1) rfl)
  have hS0 := hS
  have key : ∀ (H : Heap) (locs : List Loc), H = ss.heap → locs = [] → va_P D vwCl (wSheet k t so le ro) H → va_S (va_A (wSheet k t so le ro) ss.heap.size) ss.heap H locs → W pp l ee ({ frames := 0, cells := 0, slots := 0, locals := 0 } : Room) ss mm ([.ref (t 0)] : List Value).toArray bl me co H locs 0 0 (MQ bl (cQi D k (wSheet k t so le ro) ss.heap.size r (wSheet k t so le ro)) ([.ref (t 0)] : List Value).toArray ss 0 0 (va_A (wSheet k t so le ro) ss.heap.size)) (F0 mm 0 ls []) := by
    intro H locs _ _ hP hS
    refine lv_aload_n hx hb dX5_isMissing_0 rfl (lv_at hl 0 rfl) ?_
    refine va_get (D := D) (ci := 5) (v := .int so) (C := RX5) (T := TX5) (N := 3) hx hb hts iX5 hown hK hP 0 rfl rfl 1 (by decide) w1 (fun _ h9 => h9) rfl dX5_isMissing_1 ?_
    refine lv_iconst (v := (-1)) hx hb dX5_isMissing_4 (by decide) ?_
    refine lv_icmp_ne (tgt := 12) hx hb dX5_isMissing_5 (by decide) (fun c1001 => ?_) (fun c1001 => ?_)
    · have he := ifn he c1001
      refine lv_iconst (v := 0) hx hb dX5_isMissing_12 (by decide) ?_
      obtain rfl := some1 he
      exact cRi hx hb hr hlk hK rfl hP hD hS dX5_isMissing_13
    · have he := ifp he c1001
      refine lv_iconst (v := 1) hx hb dX5_isMissing_8 (by decide) ?_
      refine lv_goto (tgt := 13) hx hb dX5_isMissing_9 (by decide) ?_
      obtain rfl := some1 he
      exact cRi hx hb hr hlk hK rfl hP hD hS dX5_isMissing_13
  exact key ss.heap [] rfl rfl hP hS
theorem kX5_refusalAsSort : yX5_refusalAsSort.cls = RX5 ∧ yX5_refusalAsSort.cls ≠ "java/lang/invoke/MethodHandle" ∧ yX5_refusalAsSort.cls ≠ "java/lang/invoke/VarHandle" ∧ (parseMethodDescriptor yX5_refusalAsSort.desc).map (fun d => d.parameters.length) = some 1 := by decide +kernel
set_option maxRecDepth 100000 in
set_option maxHeartbeats 4000000 in
theorem mX5_refusalAsSort (l : Launch) (D : va_G) (k : Nat → ClassId) (t : Nat → Nat) {so : Int32} {le : Int32} {ro : Nat → Int64} {p1 : Int32} {r : Int32}  (he : xX5_refusalAsSort so p1 = some r) : CtI l D k yX5_refusalAsSort wsX5_refusalAsSort ({ frames := 1, cells := 0, slots := 0, locals := 20 } : Room) [.ref (t 0), .int p1] (wSheet k t so le ro) r (wSheet k t so le ro) := by
  intro sz9
  refine cSt (lv := [(0, .ref (t 0)), (1, .int p1)]) (own := RX5) (cc := cX5_refusalAsSort) (nL := 2) (ret := (some .int)) (by decide +kernel) rfl rfl (Nat.le_of_ble_eq_true rfl) rfl ?_
  intro pp ee ss mm bl me co hsz hC0 hP hD hS ls hl
  subst hsz
  obtain ⟨hx, hb, hr, hml, hown, hts, hK, hlk⟩ := hC0
  have hA : ∀ q, ss.heap.size ≤ q → va_A (wSheet k t so le ro) ss.heap.size q := fun q h => Or.inr h
  have iX5 : ∀ w ∈ wsX50, w ∈ wsX5_refusalAsSort := fun _ h => List.mem_cons_of_mem _ (List.mem_append_right _ h)
  have w1 := hts (.fieldLink RX5 15 "DeadListPool$Sheet" "sort" "I") (List.mem_of_getElem? (i := 1) rfl)
  have hS0 := hS
  have key : ∀ (H : Heap) (locs : List Loc), H = ss.heap → locs = [] → va_P D vwCl (wSheet k t so le ro) H → va_S (va_A (wSheet k t so le ro) ss.heap.size) ss.heap H locs → W pp l ee ({ frames := 1, cells := 0, slots := 0, locals := 20 } : Room) ss mm ([.ref (t 0), .int p1] : List Value).toArray bl me co H locs 0 0 (MQ bl (cQi D k (wSheet k t so le ro) ss.heap.size r (wSheet k t so le ro)) ([.ref (t 0), .int p1] : List Value).toArray ss 0 0 (va_A (wSheet k t so le ro) ss.heap.size)) (F0 mm 0 ls []) := by
    intro H locs _ _ hP hS
    refine lv_aload_n hx hb dX5_refusalAsSort_0 rfl (lv_at hl 0 rfl) ?_
    obtain ⟨v1001, h1002, he⟩ := bn1_i he
    refine cVir (As := []) (rest := []) ⟨hx, hb, hml, hown, hts⟩ hK hA hP hD hS (mX5_isMissing l D k t (so := so) (le := le) (ro := ro) h1002) (cwV 0 hts gX5_refusalAsSort_X5_isMissing rfl rfl rfl kX5_isMissing ⟨Nat.le_of_ble_eq_true rfl, Nat.le_of_ble_eq_true rfl⟩) [0, 1] rfl rfl 0 rfl rfl rfl hl.1 rfl (Nat.le_of_ble_eq_true rfl) ⟨Nat.le_refl 0, Nat.le_refl 0⟩ dX5_refusalAsSort_1 (fun H locs hP hD hS => ?_)
    refine lv_if_eq (tgt := 10) hx hb dX5_refusalAsSort_4 (by decide) (fun c1003 => ?_) (fun c1003 => ?_)
    · have he := ifp he c1003
      refine lv_aload_n hx hb dX5_refusalAsSort_10 rfl (lv_at hl 0 rfl) ?_
      refine va_get (D := D) (ci := 5) (v := .int so) (C := RX5) (T := TX5) (N := 3) hx hb hts iX5 hown hK hP 0 rfl rfl 1 (by decide) w1 (fun _ h9 => h9) rfl dX5_refusalAsSort_11 ?_
      refine lv_iload_n hx hb dX5_refusalAsSort_14 rfl (lv_at hl 1 rfl) ?_
      refine lv_icmp_ne (tgt := 22) hx hb dX5_refusalAsSort_15 (by decide) (fun c1004 => ?_) (fun c1004 => ?_)
      · have he := ifn he c1004
        refine lv_bipush (v := (-13)) hx hb dX5_refusalAsSort_22 (by decide) ?_
        obtain rfl := some1 he
        exact cRi hx hb hr hlk hK rfl hP hD hS dX5_refusalAsSort_24
      · have he := ifp he c1004
        refine lv_iconst (v := 0) hx hb dX5_refusalAsSort_18 (by decide) ?_
        refine lv_goto (tgt := 24) hx hb dX5_refusalAsSort_19 (by decide) ?_
        obtain rfl := some1 he
        exact cRi hx hb hr hlk hK rfl hP hD hS dX5_refusalAsSort_24
    · have he := ifn he c1003
      refine lv_bipush (v := (-11)) hx hb dX5_refusalAsSort_7 (by decide) ?_
      obtain rfl := some1 he
      exact cRi hx hb hr hlk hK rfl hP hD hS dX5_refusalAsSort_9
  exact key ss.heap [] rfl rfl hP hS
theorem kX5_put : yX5_put.cls = RX5 ∧ yX5_put.cls ≠ "java/lang/invoke/MethodHandle" ∧ yX5_put.cls ≠ "java/lang/invoke/VarHandle" ∧ (parseMethodDescriptor yX5_put.desc).map (fun d => d.parameters.length) = some 2 := by decide +kernel
set_option maxRecDepth 100000 in
set_option maxHeartbeats 4000000 in
theorem mX5_put (l : Launch) (D : va_G) (k : Nat → ClassId) (t : Nat → Nat) {so : Int32} {le : Int32} {ro_0 : Nat → Int64} {p1 : Int32} {p2 : Int64} {r : Int32} {ro' : Nat → Int64} (he : xX5_put so le ro_0 p1 p2 = some (r, ro')) : CtI l D k yX5_put wsX5_put ({ frames := 0, cells := 0, slots := 0, locals := 0 } : Room) [.ref (t 0), .int p1, .long p2] (wSheet k t so le ro_0) r (wSheet k t so le ro') := by
  intro sz9
  refine cSt (lv := [(0, .ref (t 0)), (1, .int p1), (2, .long p2)]) (own := RX5) (cc := cX5_put) (nL := 4) (ret := (some .boolean)) (by decide +kernel) rfl rfl (Nat.le_of_ble_eq_true rfl) rfl ?_
  intro pp ee ss mm bl me co hsz hC0 hP hD hS ls hl
  subst hsz
  obtain ⟨hx, hb, hr, hml, hown, hts, hK, hlk⟩ := hC0
  have hA : ∀ q, ss.heap.size ≤ q → va_A (wSheet k t so le ro_0) ss.heap.size q := fun q h => Or.inr h
  have iX5 : ∀ w ∈ wsX50, w ∈ wsX5_put := fun _ h => List.mem_cons_of_mem _ (List.mem_append_right _ h)
  have w1 := hts (.fieldLink RX5 19 "DeadListPool$Sheet" "length" "I") (List.mem_of_getElem? (i := 1) rfl)
  have w2 := hts (.fieldLink RX5 9 "DeadListPool$Sheet" "row" "[J") (List.mem_of_getElem? (i := 2) rfl)
  have w3 := hts (.fieldLink RX5 15 "DeadListPool$Sheet" "sort" "I") (List.mem_of_getElem? (i := 3) rfl)
  have hS0 := hS
  have key : ∀ (H : Heap) (locs : List Loc), H = ss.heap → locs = [] → va_P D vwCl (wSheet k t so le ro_0) H → va_S (va_A (wSheet k t so le ro_0) ss.heap.size) ss.heap H locs → W pp l ee ({ frames := 0, cells := 0, slots := 0, locals := 0 } : Room) ss mm ([.ref (t 0), .int p1, .long p2] : List Value).toArray bl me co H locs 0 0 (MQ bl (cQi D k (wSheet k t so le ro_0) ss.heap.size r (wSheet k t so le ro')) ([.ref (t 0), .int p1, .long p2] : List Value).toArray ss 0 0 (va_A (wSheet k t so le ro_0) ss.heap.size)) (F0 mm 0 ls []) := by
    intro H locs _ _ hP hS
    refine lv_iload_n hx hb dX5_put_0 rfl (lv_at hl 1 rfl) ?_
    refine lv_if_lt (tgt := 18) hx hb dX5_put_1 (by decide) (fun c1001 => ?_) (fun c1001 => ?_)
    · have he := ifp he c1001
      refine lv_iconst (v := 0) hx hb dX5_put_18 (by decide) ?_
      obtain ⟨rfl, rfl⟩ := some2 he
      exact cRi hx hb hr hlk hK rfl hP hD hS dX5_put_19
    · have he := ifn he c1001
      refine lv_iload_n hx hb dX5_put_4 rfl (lv_at hl 1 rfl) ?_
      refine lv_aload_n hx hb dX5_put_5 rfl (lv_at hl 0 rfl) ?_
      refine va_get (D := D) (ci := 5) (v := .int le) (C := RX5) (T := TX5) (N := 3) hx hb hts iX5 hown hK hP 0 rfl rfl 2 (by decide) w1 (fun _ h9 => h9) rfl dX5_put_6 ?_
      refine lv_icmp_ge (tgt := 18) hx hb dX5_put_9 (by decide) (fun c1002 => ?_) (fun c1002 => ?_)
      · have he := ifp he c1002
        refine lv_iconst (v := 0) hx hb dX5_put_18 (by decide) ?_
        obtain ⟨rfl, rfl⟩ := some2 he
        exact cRi hx hb hr hlk hK rfl hP hD hS dX5_put_19
      · have he := ifn he c1002
        refine lv_iload_n hx hb dX5_put_12 rfl (lv_at hl 1 rfl) ?_
        refine lv_bipush (v := 40) hx hb dX5_put_13 (by decide) ?_
        refine lv_icmp_lt (tgt := 20) hx hb dX5_put_15 (by decide) (fun c1003 => ?_) (fun c1003 => ?_)
        · have he := ifp he c1003
          refine lv_aload_n hx hb dX5_put_20 rfl (lv_at hl 0 rfl) ?_
          refine va_get (D := D) (ci := 5) (v := .ref (t 1)) (C := RX5) (T := TX5) (N := 3) hx hb hts iX5 hown hK hP 0 rfl rfl 0 (by decide) w2 (fun _ h9 => h9) rfl dX5_put_21 ?_
          refine lv_iload_n hx hb dX5_put_24 rfl (lv_at hl 1 rfl) ?_
          refine lv_aload_n hx hb dX5_put_25 rfl (lv_at hl 0 rfl) ?_
          refine va_get (D := D) (ci := 5) (v := .int so) (C := RX5) (T := TX5) (N := 3) hx hb hts iX5 hown hK hP 0 rfl rfl 1 (by decide) w3 (fun _ h9 => h9) rfl dX5_put_26 ?_
          refine lv_if_ne (tgt := 38) hx hb dX5_put_29 (by decide) (fun c1004 => ?_) (fun c1004 => ?_)
          · have he := ifn he c1004
            refine lv_lload_n hx hb dX5_put_38 rfl (lv_at hl 2 rfl) ?_
            obtain ⟨h1005, he⟩ := grd_i he
            obtain ⟨ro1006, e1007, he⟩ := lt_i he
            refine va_last hx hb hK hP hD hS 1 1 rfl rfl (ix_in h1005) dX5_put_39 (fun H locs hP hD hS => ?_)
            have hP : va_P D vwCl (wSheet k t so le ro1006) H := by rw [e1007]; exact hP
            have hD : va_D _ (wSheet k t so le ro1006) := va_D_adr (by rw [e1007]; rfl) hD
            refine lv_iconst (v := 1) hx hb dX5_put_40 (by decide) ?_
            obtain ⟨rfl, rfl⟩ := some2 he
            exact cRi hx hb hr hlk hK rfl hP hD hS dX5_put_41
          · have he := ifp he c1004
            refine lv_lload_n hx hb dX5_put_32 rfl (lv_at hl 2 rfl) ?_
            refine lv_l2i (v := (Int64.toInt32 p2)) hx hb dX5_put_33 rfl ?_
            refine lv_i2l (v := (Int32.toInt64 (Int64.toInt32 p2))) hx hb dX5_put_34 rfl ?_
            refine lv_goto (tgt := 39) hx hb dX5_put_35 (by decide) ?_
            obtain ⟨h1008, he⟩ := grd_i he
            obtain ⟨ro1009, e1010, he⟩ := lt_i he
            refine va_last hx hb hK hP hD hS 1 1 rfl rfl (ix_in h1008) dX5_put_39 (fun H locs hP hD hS => ?_)
            have hP : va_P D vwCl (wSheet k t so le ro1009) H := by rw [e1010]; exact hP
            have hD : va_D _ (wSheet k t so le ro1009) := va_D_adr (by rw [e1010]; rfl) hD
            refine lv_iconst (v := 1) hx hb dX5_put_40 (by decide) ?_
            obtain ⟨rfl, rfl⟩ := some2 he
            exact cRi hx hb hr hlk hK rfl hP hD hS dX5_put_41
        · have he := ifn he c1003
          refine lv_iconst (v := 0) hx hb dX5_put_18 (by decide) ?_
          obtain ⟨rfl, rfl⟩ := some2 he
          exact cRi hx hb hr hlk hK rfl hP hD hS dX5_put_19
  exact key ss.heap [] rfl rfl hP hS
theorem kX5_append : yX5_append.cls = RX5 ∧ yX5_append.cls ≠ "java/lang/invoke/MethodHandle" ∧ yX5_append.cls ≠ "java/lang/invoke/VarHandle" ∧ (parseMethodDescriptor yX5_append.desc).map (fun d => d.parameters.length) = some 1 := by decide +kernel
set_option maxRecDepth 100000 in
set_option maxHeartbeats 4000000 in
theorem mX5_append (l : Launch) (D : va_G) (k : Nat → ClassId) (t : Nat → Nat) {so : Int32} {le_0 : Int32} {ro_0 : Nat → Int64} {p1 : Int64} {le' : Int32} {ro' : Nat → Int64} (he : xX5_append so le_0 ro_0 p1 = some (le', ro')) : CtV l D k yX5_append wsX5_append ({ frames := 1, cells := 0, slots := 0, locals := 23 } : Room) [.ref (t 0), .long p1] (wSheet k t so le_0 ro_0) (wSheet k t so le' ro') := by
  intro sz9
  refine cSt (lv := [(0, .ref (t 0)), (1, .long p1)]) (own := RX5) (cc := cX5_append) (nL := 3) (ret := none) (by decide +kernel) rfl rfl (Nat.le_of_ble_eq_true rfl) rfl ?_
  intro pp ee ss mm bl me co hsz hC0 hP hD hS ls hl
  subst hsz
  obtain ⟨hx, hb, hr, hml, hown, hts, hK, hlk⟩ := hC0
  have hA : ∀ q, ss.heap.size ≤ q → va_A (wSheet k t so le_0 ro_0) ss.heap.size q := fun q h => Or.inr h
  have iX5 : ∀ w ∈ wsX50, w ∈ wsX5_append := fun _ h => List.mem_cons_of_mem _ (List.mem_append_right _ h)
  have w1 := hts (.fieldLink RX5 19 "DeadListPool$Sheet" "length" "I") (List.mem_of_getElem? (i := 1) rfl)
  have hS0 := hS
  have key : ∀ (H : Heap) (locs : List Loc), H = ss.heap → locs = [] → va_P D vwCl (wSheet k t so le_0 ro_0) H → va_S (va_A (wSheet k t so le_0 ro_0) ss.heap.size) ss.heap H locs → W pp l ee ({ frames := 1, cells := 0, slots := 0, locals := 23 } : Room) ss mm ([.ref (t 0), .long p1] : List Value).toArray bl me co H locs 0 0 (MQ bl (cQv D k (wSheet k t so le_0 ro_0) ss.heap.size (wSheet k t so le' ro')) ([.ref (t 0), .long p1] : List Value).toArray ss 0 0 (va_A (wSheet k t so le_0 ro_0) ss.heap.size)) (F0 mm 0 ls []) := by
    intro H locs _ _ hP hS
    refine lv_aload_n hx hb dX5_append_0 rfl (lv_at hl 0 rfl) ?_
    refine va_get (D := D) (ci := 5) (v := .int le_0) (C := RX5) (T := TX5) (N := 3) hx hb hts iX5 hown hK hP 0 rfl rfl 2 (by decide) w1 (fun _ h9 => h9) rfl dX5_append_1 ?_
    refine lv_bipush (v := 40) hx hb dX5_append_4 (by decide) ?_
    refine lv_icmp_ge (tgt := 31) hx hb dX5_append_6 (by decide) (fun c1001 => ?_) (fun c1001 => ?_)
    · have he := ifp he c1001
      obtain ⟨rfl, rfl⟩ := some2 he
      exact cRv hx hb hr hlk hK hP hD hS dX5_append_31
    · have he := ifn he c1001
      refine lv_aload_n hx hb dX5_append_9 rfl (lv_at hl 0 rfl) ?_
      refine lv_dup hx hb dX5_append_10 rfl ?_
      refine va_get (D := D) (ci := 5) (v := .int le_0) (C := RX5) (T := TX5) (N := 3) hx hb hts iX5 hown hK hP 0 rfl rfl 2 (by decide) w1 (fun _ h9 => h9) rfl dX5_append_11 ?_
      refine lv_iconst (v := 1) hx hb dX5_append_14 (by decide) ?_
      refine lv_iadd hx hb dX5_append_15 ?_
      obtain ⟨le1002, e1003, he⟩ := lt_i he
      refine va_put (D := D) (ci := 5) (v := .int (le_0 + 1)) (ty := .int) (C := RX5) (T := TX5) (N := 3) hx hb hts iX5 tyX5 tyX5_ok nmX5 hown hK hP hD hS 0 rfl rfl 2 (by decide) w1 (fun _ h9 => h9) rfl (by decide +kernel) rfl rfl (Nat.le_of_ble_eq_true rfl) dX5_append_16 (fun H locs hP hD hS => ?_)
      have hP : va_P D vwCl (wSheet k t so le1002 ro_0) H := by rw [e1003]; exact hP
      have hD : va_D _ (wSheet k t so le1002 ro_0) := va_D_adr (by rw [e1003]; rfl) hD
      refine lv_aload_n hx hb dX5_append_19 rfl (lv_at hl 0 rfl) ?_
      refine lv_aload_n hx hb dX5_append_20 rfl (lv_at hl 0 rfl) ?_
      refine va_get (D := D) (ci := 5) (v := .int le1002) (C := RX5) (T := TX5) (N := 3) hx hb hts iX5 hown hK hP 0 rfl rfl 2 (by decide) w1 (fun _ h9 => h9) rfl dX5_append_21 ?_
      refine lv_iconst (v := 1) hx hb dX5_append_24 (by decide) ?_
      refine lv_isub hx hb dX5_append_25 ?_
      refine lv_lload_n hx hb dX5_append_26 rfl (lv_at hl 1 rfl) ?_
      obtain ⟨v1004, ro1005, h1006, he⟩ := bn2_i he
      refine cVi (wf := (wSheet k t so le1002 ro1005)) (As := [.int (le1002 - 1), .long p1]) (rest := []) ⟨hx, hb, hml, hown, hts⟩ hK hA hP hD hS (mX5_put l D k t (so := so) (le := le1002) (ro_0 := ro_0) h1006) (cwV 2 hts gX5_append_X5_put rfl rfl rfl kX5_put ⟨Nat.le_of_ble_eq_true rfl, Nat.le_of_ble_eq_true rfl⟩) [0, 1] rfl rfl rfl [false, false] trivial 2 rfl (by decide +kernel) rfl 0 rfl rfl rfl hl.1 rfl (Nat.le_of_ble_eq_true rfl) ⟨Nat.le_refl 0, Nat.le_refl 0⟩ dX5_append_27 (fun H locs hP hD hS => ?_)
      refine lv_pop hx hb dX5_append_30 rfl ?_
      obtain ⟨rfl, rfl⟩ := some2 he
      exact cRv hx hb hr hlk hK hP hD hS dX5_append_31
  exact key ss.heap [] rfl rfl hP hS
