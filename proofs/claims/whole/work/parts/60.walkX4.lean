theorem kX4_now : yX4_now.cls = RX4 ∧ yX4_now.cls ≠ "java/lang/invoke/MethodHandle" ∧ yX4_now.cls ≠ "java/lang/invoke/VarHandle" ∧ (parseMethodDescriptor yX4_now.desc).map (fun d => d.parameters.length) = some 0 := by decide +kernel
set_option maxRecDepth 100000 in
set_option maxHeartbeats 4000000 in
theorem mX4_now (l : Launch) (D : va_G) (k : Nat → ClassId) (a : Nat → Nat) {P : Nat → Nat → Int32}  {r : Int32}  (he : xX4_now P = some r) : CtI l D k yX4_now wsX4_now ({ frames := 0, cells := 0, slots := 0, locals := 0 } : Room) [.ref (a 0)] (wPool k a P) r (wPool k a P) := by
  intro sz9
  refine cSt (lv := [(0, .ref (a 0))]) (own := RX4) (cc := cX4_now) (nL := 1) (ret := (some .int)) (by decide +kernel) rfl rfl (Nat.le_of_ble_eq_true rfl) rfl ?_
  intro pp ee ss mm bl me co hsz hC0 hP hD hS ls hl
  subst hsz
  obtain ⟨hx, hb, hr, hml, hown, hts, hK, hlk⟩ := hC0
  have hA : ∀ q, ss.heap.size ≤ q → va_A (wPool k a P) ss.heap.size q := fun q h => Or.inr h
  have iX4 : ∀ w ∈ wsX40, w ∈ wsX4_now := fun _ h => List.mem_cons_of_mem _ (List.mem_append_right _ h)
  have w1 := hts (.fieldLink RX4 39 "DeadListPool$Pool" "time" "I") (List.mem_of_getElem? (i := 1) rfl)
  have hS0 := hS
  have key : ∀ (H : Heap) (locs : List Loc), H = ss.heap → locs = [] → va_P D vwCl (wPool k a P) H → va_S (va_A (wPool k a P) ss.heap.size) ss.heap H locs → W pp l ee ({ frames := 0, cells := 0, slots := 0, locals := 0 } : Room) ss mm ([.ref (a 0)] : List Value).toArray bl me co H locs 0 0 (MQ bl (cQi D k (wPool k a P) ss.heap.size r (wPool k a P)) ([.ref (a 0)] : List Value).toArray ss 0 0 (va_A (wPool k a P) ss.heap.size)) (F0 mm 0 ls []) := by
    intro H locs _ _ hP hS
    refine lv_aload_n hx hb dX4_now_0 rfl (lv_at hl 0 rfl) ?_
    refine va_get (D := D) (ci := 4) (v := .int (P 9 0)) (C := RX4) (T := TX4) (N := 11) hx hb hts iX4 hown hK hP 0 rfl rfl 9 (by decide) w1 (fun _ h9 => h9) rfl dX4_now_1 ?_
    obtain rfl := some1 he
    exact cRi hx hb hr hlk hK rfl hP hD hS dX4_now_4
  exact key ss.heap [] rfl rfl hP hS
theorem kX4_newThing : yX4_newThing.cls = RX4 ∧ yX4_newThing.cls ≠ "java/lang/invoke/MethodHandle" ∧ yX4_newThing.cls ≠ "java/lang/invoke/VarHandle" ∧ (parseMethodDescriptor yX4_newThing.desc).map (fun d => d.parameters.length) = some 2 := by decide +kernel
set_option maxRecDepth 100000 in
set_option maxHeartbeats 4000000 in
theorem mX4_newThing (l : Launch) (D : va_G) (k : Nat → ClassId) (a : Nat → Nat) {P_0 : Nat → Nat → Int32} {p1 : Int32} {p2 : Int32} {r : Int32} {P' : Nat → Nat → Int32} (he : xX4_newThing P_0 p1 p2 = some (r, P')) : CtI l D k yX4_newThing wsX4_newThing ({ frames := 0, cells := 0, slots := 0, locals := 0 } : Room) [.ref (a 0), .int p1, .int p2] (wPool k a P_0) r (wPool k a P') := by
  intro sz9
  refine cSt (lv := [(0, .ref (a 0)), (1, .int p1), (2, .int p2)]) (own := RX4) (cc := cX4_newThing) (nL := 4) (ret := (some .int)) (by decide +kernel) rfl rfl (Nat.le_of_ble_eq_true rfl) rfl ?_
  intro pp ee ss mm bl me co hsz hC0 hP hD hS ls hl
  subst hsz
  obtain ⟨hx, hb, hr, hml, hown, hts, hK, hlk⟩ := hC0
  have hA : ∀ q, ss.heap.size ≤ q → va_A (wPool k a P_0) ss.heap.size q := fun q h => Or.inr h
  have iX4 : ∀ w ∈ wsX40, w ∈ wsX4_newThing := fun _ h => List.mem_cons_of_mem _ (List.mem_append_right _ h)
  have w1 := hts (.fieldLink RX4 9 "DeadListPool$Pool" "kind" "[I") (List.mem_of_getElem? (i := 1) rfl)
  have w2 := hts (.fieldLink RX4 15 "DeadListPool$Pool" "made" "[I") (List.mem_of_getElem? (i := 2) rfl)
  have B2 : ∀ (n2 : Nat) (x1 : Int32) (x2 : Int32) (x3 : Int32) (P : Nat → Nat → Int32), xX4_newThing_2 n2 x1 x2 x3 P = some (r, P') → ∀ (H : Heap) (locs : List Loc), va_P D vwCl (wPool k a P) H → va_D (va_A (wPool k a P_0) ss.heap.size) (wPool k a P) → va_S (va_A (wPool k a P_0) ss.heap.size) ss.heap H locs → ∀ ls : Array Slot, lv_has ls 4 [(0, .ref (a 0)), (1, .int x1), (2, .int x2), (3, .int x3)] → W pp l ee ({ frames := 0, cells := 0, slots := 0, locals := 0 } : Room) ss mm ([.ref (a 0), .int p1, .int p2] : List Value).toArray bl me co H locs 0 0 (MQ bl (cQi D k (wPool k a P_0) ss.heap.size r (wPool k a P')) ([.ref (a 0), .int p1, .int p2] : List Value).toArray ss 0 0 (va_A (wPool k a P_0) ss.heap.size)) (F0 mm 2 ls []) := by
    intro n2
    induction n2 with
    | zero =>
      intro x1 x2 x3 P he
      exact absurd (show (none : Option (Int32 × (Nat → Nat → Int32))) = some (r, P') from he) (by simp)
    | succ n2 ih2 =>
      intro x1 x2 x3 P he H locs hP hD hS ls hl
      refine lv_iload_n hx hb dX4_newThing_2 rfl (lv_at hl 3 rfl) ?_
      refine lv_bipush (v := 20) hx hb dX4_newThing_3 (by decide) ?_
      refine lv_icmp_ge (tgt := 40) hx hb dX4_newThing_5 (by decide) (fun c1 => ?_) (fun c1 => ?_)
      · have he := ifp he c1
        refine lv_bipush (v := (-4)) hx hb dX4_newThing_40 (by decide) ?_
        obtain ⟨rfl, rfl⟩ := some2 he
        exact cRi hx hb hr hlk hK rfl hP hD hS dX4_newThing_42
      · have he := ifn he c1
        refine lv_aload_n hx hb dX4_newThing_8 rfl (lv_at hl 0 rfl) ?_
        refine va_get (D := D) (ci := 4) (v := .ref (a 1)) (C := RX4) (T := TX4) (N := 11) hx hb hts iX4 hown hK hP 0 rfl rfl 0 (by decide) w1 (fun _ h9 => h9) rfl dX4_newThing_9 ?_
        refine lv_iload_n hx hb dX4_newThing_12 rfl (lv_at hl 3 rfl) ?_
        obtain ⟨h2, he⟩ := grd_i he
        refine va_iald hx hb hK hP 1 0 rfl rfl (ix_in h2) dX4_newThing_13 ?_
        refine lv_iconst (v := (-1)) hx hb dX4_newThing_14 (by decide) ?_
        refine lv_icmp_ne (tgt := 34) hx hb dX4_newThing_15 (by decide) (fun c3 => ?_) (fun c3 => ?_)
        · have he := ifn he c3
          refine lv_iinc (v := (x3 + 1)) (lv' := [(3, .int (x3 + 1)), (0, .ref (a 0)), (1, .int x1), (2, .int x2)]) hx hb dX4_newThing_34 hl (k := 3) rfl rfl (by decide) rfl (fun ls hl => ?_)
          refine lv_goto (tgt := 2) hx hb dX4_newThing_37 (by decide) ?_
          exact ih2 x1 x2 (x3 + 1) P he H locs hP hD hS ls (lv_sub hl [1, 2, 3, 0] rfl)
        · have he := ifp he c3
          refine lv_aload_n hx hb dX4_newThing_18 rfl (lv_at hl 0 rfl) ?_
          refine va_get (D := D) (ci := 4) (v := .ref (a 1)) (C := RX4) (T := TX4) (N := 11) hx hb hts iX4 hown hK hP 0 rfl rfl 0 (by decide) w1 (fun _ h9 => h9) rfl dX4_newThing_19 ?_
          refine lv_iload_n hx hb dX4_newThing_22 rfl (lv_at hl 3 rfl) ?_
          refine lv_iload_n hx hb dX4_newThing_23 rfl (lv_at hl 1 rfl) ?_
          obtain ⟨h4, he⟩ := grd_i he
          obtain ⟨P5, e6, he⟩ := lt_i he
          refine va_iast hx hb hK hP hD hS 1 0 rfl rfl (ix_in h4) dX4_newThing_24 (fun H locs hP hD hS => ?_)
          have hP : va_P D vwCl (wPool k a P5) H := by rw [e6]; exact hP
          have hD : va_D _ (wPool k a P5) := va_D_adr (by rw [e6]; rfl) hD
          refine lv_aload_n hx hb dX4_newThing_25 rfl (lv_at hl 0 rfl) ?_
          refine va_get (D := D) (ci := 4) (v := .ref (a 2)) (C := RX4) (T := TX4) (N := 11) hx hb hts iX4 hown hK hP 0 rfl rfl 1 (by decide) w2 (fun _ h9 => h9) rfl dX4_newThing_26 ?_
          refine lv_iload_n hx hb dX4_newThing_29 rfl (lv_at hl 3 rfl) ?_
          refine lv_iload_n hx hb dX4_newThing_30 rfl (lv_at hl 2 rfl) ?_
          obtain ⟨h7, he⟩ := grd_i he
          obtain ⟨P8, e9, he⟩ := lt_i he
          refine va_iast hx hb hK hP hD hS 2 0 rfl rfl (ix_in h7) dX4_newThing_31 (fun H locs hP hD hS => ?_)
          have hP : va_P D vwCl (wPool k a P8) H := by rw [e9]; exact hP
          have hD : va_D _ (wPool k a P8) := va_D_adr (by rw [e9]; rfl) hD
          refine lv_iload_n hx hb dX4_newThing_32 rfl (lv_at hl 3 rfl) ?_
          obtain ⟨rfl, rfl⟩ := some2 he
          exact cRi hx hb hr hlk hK rfl hP hD hS dX4_newThing_33
  have hS0 := hS
  have key : ∀ (H : Heap) (locs : List Loc), H = ss.heap → locs = [] → va_P D vwCl (wPool k a P_0) H → va_S (va_A (wPool k a P_0) ss.heap.size) ss.heap H locs → W pp l ee ({ frames := 0, cells := 0, slots := 0, locals := 0 } : Room) ss mm ([.ref (a 0), .int p1, .int p2] : List Value).toArray bl me co H locs 0 0 (MQ bl (cQi D k (wPool k a P_0) ss.heap.size r (wPool k a P')) ([.ref (a 0), .int p1, .int p2] : List Value).toArray ss 0 0 (va_A (wPool k a P_0) ss.heap.size)) (F0 mm 0 ls []) := by
    intro H locs _ _ hP hS
    refine lv_iconst (v := 0) hx hb dX4_newThing_0 (by decide) ?_
    refine lv_istore_n (lv' := [(3, .int 0), (0, .ref (a 0)), (1, .int p1), (2, .int p2)]) hx hb dX4_newThing_1 rfl hl (by decide) rfl (fun ls hl => ?_)
    exact B2 600 p1 p2 0 P_0 he H locs hP hD hS ls (lv_sub hl [1, 2, 3, 0] rfl)
  exact key ss.heap [] rfl rfl hP hS
theorem kX4_setQuota : yX4_setQuota.cls = RX4 ∧ yX4_setQuota.cls ≠ "java/lang/invoke/MethodHandle" ∧ yX4_setQuota.cls ≠ "java/lang/invoke/VarHandle" ∧ (parseMethodDescriptor yX4_setQuota.desc).map (fun d => d.parameters.length) = some 2 := by decide +kernel
set_option maxRecDepth 100000 in
set_option maxHeartbeats 4000000 in
theorem mX4_setQuota (l : Launch) (D : va_G) (k : Nat → ClassId) (a : Nat → Nat) {P_0 : Nat → Nat → Int32} {p1 : Int32} {p2 : Int32} {P' : Nat → Nat → Int32} (he : xX4_setQuota P_0 p1 p2 = some P') : CtV l D k yX4_setQuota wsX4_setQuota ({ frames := 0, cells := 0, slots := 0, locals := 0 } : Room) [.ref (a 0), .int p1, .int p2] (wPool k a P_0) (wPool k a P') := by
  intro sz9
  refine cSt (lv := [(0, .ref (a 0)), (1, .int p1), (2, .int p2)]) (own := RX4) (cc := cX4_setQuota) (nL := 3) (ret := none) (by decide +kernel) rfl rfl (Nat.le_of_ble_eq_true rfl) rfl ?_
  intro pp ee ss mm bl me co hsz hC0 hP hD hS ls hl
  subst hsz
  obtain ⟨hx, hb, hr, hml, hown, hts, hK, hlk⟩ := hC0
  have hA : ∀ q, ss.heap.size ≤ q → va_A (wPool k a P_0) ss.heap.size q := fun q h => Or.inr h
  have iX4 : ∀ w ∈ wsX40, w ∈ wsX4_setQuota := fun _ h => List.mem_cons_of_mem _ (List.mem_append_right _ h)
  have w1 := hts (.fieldLink RX4 27 "DeadListPool$Pool" "quota" "[I") (List.mem_of_getElem? (i := 1) rfl)
  have hS0 := hS
  have key : ∀ (H : Heap) (locs : List Loc), H = ss.heap → locs = [] → va_P D vwCl (wPool k a P_0) H → va_S (va_A (wPool k a P_0) ss.heap.size) ss.heap H locs → W pp l ee ({ frames := 0, cells := 0, slots := 0, locals := 0 } : Room) ss mm ([.ref (a 0), .int p1, .int p2] : List Value).toArray bl me co H locs 0 0 (MQ bl (cQv D k (wPool k a P_0) ss.heap.size (wPool k a P')) ([.ref (a 0), .int p1, .int p2] : List Value).toArray ss 0 0 (va_A (wPool k a P_0) ss.heap.size)) (F0 mm 0 ls []) := by
    intro H locs _ _ hP hS
    refine lv_iload_n hx hb dX4_setQuota_0 rfl (lv_at hl 1 rfl) ?_
    refine lv_if_lt (tgt := 17) hx hb dX4_setQuota_1 (by decide) (fun c1001 => ?_) (fun c1001 => ?_)
    · have he := ifp he c1001
      obtain rfl := some1 he
      exact cRv hx hb hr hlk hK hP hD hS dX4_setQuota_17
    · have he := ifn he c1001
      refine lv_iload_n hx hb dX4_setQuota_4 rfl (lv_at hl 1 rfl) ?_
      refine lv_bipush (v := 20) hx hb dX4_setQuota_5 (by decide) ?_
      refine lv_icmp_ge (tgt := 17) hx hb dX4_setQuota_7 (by decide) (fun c1002 => ?_) (fun c1002 => ?_)
      · have he := ifp he c1002
        obtain rfl := some1 he
        exact cRv hx hb hr hlk hK hP hD hS dX4_setQuota_17
      · have he := ifn he c1002
        refine lv_aload_n hx hb dX4_setQuota_10 rfl (lv_at hl 0 rfl) ?_
        refine va_get (D := D) (ci := 4) (v := .ref (a 6)) (C := RX4) (T := TX4) (N := 11) hx hb hts iX4 hown hK hP 0 rfl rfl 5 (by decide) w1 (fun _ h9 => h9) rfl dX4_setQuota_11 ?_
        refine lv_iload_n hx hb dX4_setQuota_14 rfl (lv_at hl 1 rfl) ?_
        refine lv_iload_n hx hb dX4_setQuota_15 rfl (lv_at hl 2 rfl) ?_
        obtain ⟨h1003, he⟩ := grd_i he
        obtain ⟨P1004, e1005, he⟩ := lt_i he
        refine va_iast hx hb hK hP hD hS 6 0 rfl rfl (ix_in h1003) dX4_setQuota_16 (fun H locs hP hD hS => ?_)
        have hP : va_P D vwCl (wPool k a P1004) H := by rw [e1005]; exact hP
        have hD : va_D _ (wPool k a P1004) := va_D_adr (by rw [e1005]; rfl) hD
        obtain rfl := some1 he
        exact cRv hx hb hr hlk hK hP hD hS dX4_setQuota_17
  exact key ss.heap [] rfl rfl hP hS
theorem kX4_refusalOfNumber : yX4_refusalOfNumber.cls = RX4 ∧ yX4_refusalOfNumber.cls ≠ "java/lang/invoke/MethodHandle" ∧ yX4_refusalOfNumber.cls ≠ "java/lang/invoke/VarHandle" ∧ (parseMethodDescriptor yX4_refusalOfNumber.desc).map (fun d => d.parameters.length) = some 1 := by decide +kernel
set_option maxRecDepth 100000 in
set_option maxHeartbeats 4000000 in
theorem mX4_refusalOfNumber (l : Launch) (D : va_G) (k : Nat → ClassId) (a : Nat → Nat) {P : Nat → Nat → Int32} {p1 : Int32} {r : Int32}  (he : xX4_refusalOfNumber P p1 = some r) : CtI l D k yX4_refusalOfNumber wsX4_refusalOfNumber ({ frames := 0, cells := 0, slots := 0, locals := 0 } : Room) [.ref (a 0), .int p1] (wPool k a P) r (wPool k a P) := by
  intro sz9
  refine cSt (lv := [(0, .ref (a 0)), (1, .int p1)]) (own := RX4) (cc := cX4_refusalOfNumber) (nL := 2) (ret := (some .int)) (by decide +kernel) rfl rfl (Nat.le_of_ble_eq_true rfl) rfl ?_
  intro pp ee ss mm bl me co hsz hC0 hP hD hS ls hl
  subst hsz
  obtain ⟨hx, hb, hr, hml, hown, hts, hK, hlk⟩ := hC0
  have hA : ∀ q, ss.heap.size ≤ q → va_A (wPool k a P) ss.heap.size q := fun q h => Or.inr h
  have iX4 : ∀ w ∈ wsX40, w ∈ wsX4_refusalOfNumber := fun _ h => List.mem_cons_of_mem _ (List.mem_append_right _ h)
  have w1 := hts (.fieldLink RX4 9 "DeadListPool$Pool" "kind" "[I") (List.mem_of_getElem? (i := 1) rfl)
  have hS0 := hS
  have key : ∀ (H : Heap) (locs : List Loc), H = ss.heap → locs = [] → va_P D vwCl (wPool k a P) H → va_S (va_A (wPool k a P) ss.heap.size) ss.heap H locs → W pp l ee ({ frames := 0, cells := 0, slots := 0, locals := 0 } : Room) ss mm ([.ref (a 0), .int p1] : List Value).toArray bl me co H locs 0 0 (MQ bl (cQi D k (wPool k a P) ss.heap.size r (wPool k a P)) ([.ref (a 0), .int p1] : List Value).toArray ss 0 0 (va_A (wPool k a P) ss.heap.size)) (F0 mm 0 ls []) := by
    intro H locs _ _ hP hS
    refine lv_iload_n hx hb dX4_refusalOfNumber_0 rfl (lv_at hl 1 rfl) ?_
    refine lv_if_lt (tgt := 10) hx hb dX4_refusalOfNumber_1 (by decide) (fun c1001 => ?_) (fun c1001 => ?_)
    · have he := ifp he c1001
      refine lv_bipush (v := (-12)) hx hb dX4_refusalOfNumber_10 (by decide) ?_
      obtain rfl := some1 he
      exact cRi hx hb hr hlk hK rfl hP hD hS dX4_refusalOfNumber_12
    · have he := ifn he c1001
      refine lv_iload_n hx hb dX4_refusalOfNumber_4 rfl (lv_at hl 1 rfl) ?_
      refine lv_bipush (v := 20) hx hb dX4_refusalOfNumber_5 (by decide) ?_
      refine lv_icmp_lt (tgt := 13) hx hb dX4_refusalOfNumber_7 (by decide) (fun c1002 => ?_) (fun c1002 => ?_)
      · have he := ifp he c1002
        refine lv_aload_n hx hb dX4_refusalOfNumber_13 rfl (lv_at hl 0 rfl) ?_
        refine va_get (D := D) (ci := 4) (v := .ref (a 1)) (C := RX4) (T := TX4) (N := 11) hx hb hts iX4 hown hK hP 0 rfl rfl 0 (by decide) w1 (fun _ h9 => h9) rfl dX4_refusalOfNumber_14 ?_
        refine lv_iload_n hx hb dX4_refusalOfNumber_17 rfl (lv_at hl 1 rfl) ?_
        obtain ⟨h1003, he⟩ := grd_i he
        refine va_iald hx hb hK hP 1 0 rfl rfl (ix_in h1003) dX4_refusalOfNumber_18 ?_
        refine lv_iconst (v := (-1)) hx hb dX4_refusalOfNumber_19 (by decide) ?_
        refine lv_icmp_ne (tgt := 28) hx hb dX4_refusalOfNumber_20 (by decide) (fun c1004 => ?_) (fun c1004 => ?_)
        · have he := ifn he c1004
          refine lv_iconst (v := 0) hx hb dX4_refusalOfNumber_28 (by decide) ?_
          obtain rfl := some1 he
          exact cRi hx hb hr hlk hK rfl hP hD hS dX4_refusalOfNumber_29
        · have he := ifp he c1004
          refine lv_bipush (v := (-11)) hx hb dX4_refusalOfNumber_23 (by decide) ?_
          refine lv_goto (tgt := 29) hx hb dX4_refusalOfNumber_25 (by decide) ?_
          obtain rfl := some1 he
          exact cRi hx hb hr hlk hK rfl hP hD hS dX4_refusalOfNumber_29
      · have he := ifn he c1002
        refine lv_bipush (v := (-12)) hx hb dX4_refusalOfNumber_10 (by decide) ?_
        obtain rfl := some1 he
        exact cRi hx hb hr hlk hK rfl hP hD hS dX4_refusalOfNumber_12
  exact key ss.heap [] rfl rfl hP hS
theorem kX4_kindOf : yX4_kindOf.cls = RX4 ∧ yX4_kindOf.cls ≠ "java/lang/invoke/MethodHandle" ∧ yX4_kindOf.cls ≠ "java/lang/invoke/VarHandle" ∧ (parseMethodDescriptor yX4_kindOf.desc).map (fun d => d.parameters.length) = some 1 := by decide +kernel
set_option maxRecDepth 100000 in
set_option maxHeartbeats 4000000 in
theorem mX4_kindOf (l : Launch) (D : va_G) (k : Nat → ClassId) (a : Nat → Nat) {P : Nat → Nat → Int32} {p1 : Int32} {r : Int32}  (he : xX4_kindOf P p1 = some r) : CtI l D k yX4_kindOf wsX4_kindOf ({ frames := 0, cells := 0, slots := 0, locals := 0 } : Room) [.ref (a 0), .int p1] (wPool k a P) r (wPool k a P) := by
  intro sz9
  refine cSt (lv := [(0, .ref (a 0)), (1, .int p1)]) (own := RX4) (cc := cX4_kindOf) (nL := 2) (ret := (some .int)) (by decide +kernel) rfl rfl (Nat.le_of_ble_eq_true rfl) rfl ?_
  intro pp ee ss mm bl me co hsz hC0 hP hD hS ls hl
  subst hsz
  obtain ⟨hx, hb, hr, hml, hown, hts, hK, hlk⟩ := hC0
  have hA : ∀ q, ss.heap.size ≤ q → va_A (wPool k a P) ss.heap.size q := fun q h => Or.inr h
  have iX4 : ∀ w ∈ wsX40, w ∈ wsX4_kindOf := fun _ h => List.mem_cons_of_mem _ (List.mem_append_right _ h)
  have w1 := hts (.fieldLink RX4 9 "DeadListPool$Pool" "kind" "[I") (List.mem_of_getElem? (i := 1) rfl)
  have hS0 := hS
  have key : ∀ (H : Heap) (locs : List Loc), H = ss.heap → locs = [] → va_P D vwCl (wPool k a P) H → va_S (va_A (wPool k a P) ss.heap.size) ss.heap H locs → W pp l ee ({ frames := 0, cells := 0, slots := 0, locals := 0 } : Room) ss mm ([.ref (a 0), .int p1] : List Value).toArray bl me co H locs 0 0 (MQ bl (cQi D k (wPool k a P) ss.heap.size r (wPool k a P)) ([.ref (a 0), .int p1] : List Value).toArray ss 0 0 (va_A (wPool k a P) ss.heap.size)) (F0 mm 0 ls []) := by
    intro H locs _ _ hP hS
    refine lv_iload_n hx hb dX4_kindOf_0 rfl (lv_at hl 1 rfl) ?_
    refine lv_if_lt (tgt := 19) hx hb dX4_kindOf_1 (by decide) (fun c1001 => ?_) (fun c1001 => ?_)
    · have he := ifp he c1001
      refine lv_iconst (v := (-1)) hx hb dX4_kindOf_19 (by decide) ?_
      obtain rfl := some1 he
      exact cRi hx hb hr hlk hK rfl hP hD hS dX4_kindOf_20
    · have he := ifn he c1001
      refine lv_iload_n hx hb dX4_kindOf_4 rfl (lv_at hl 1 rfl) ?_
      refine lv_bipush (v := 20) hx hb dX4_kindOf_5 (by decide) ?_
      refine lv_icmp_ge (tgt := 19) hx hb dX4_kindOf_7 (by decide) (fun c1002 => ?_) (fun c1002 => ?_)
      · have he := ifp he c1002
        refine lv_iconst (v := (-1)) hx hb dX4_kindOf_19 (by decide) ?_
        obtain rfl := some1 he
        exact cRi hx hb hr hlk hK rfl hP hD hS dX4_kindOf_20
      · have he := ifn he c1002
        refine lv_aload_n hx hb dX4_kindOf_10 rfl (lv_at hl 0 rfl) ?_
        refine va_get (D := D) (ci := 4) (v := .ref (a 1)) (C := RX4) (T := TX4) (N := 11) hx hb hts iX4 hown hK hP 0 rfl rfl 0 (by decide) w1 (fun _ h9 => h9) rfl dX4_kindOf_11 ?_
        refine lv_iload_n hx hb dX4_kindOf_14 rfl (lv_at hl 1 rfl) ?_
        obtain ⟨h1003, he⟩ := grd_i he
        refine va_iald hx hb hK hP 1 0 rfl rfl (ix_in h1003) dX4_kindOf_15 ?_
        refine lv_goto (tgt := 20) hx hb dX4_kindOf_16 (by decide) ?_
        obtain rfl := some1 he
        exact cRi hx hb hr hlk hK rfl hP hD hS dX4_kindOf_20
  exact key ss.heap [] rfl rfl hP hS
theorem kX4_refusalAs : yX4_refusalAs.cls = RX4 ∧ yX4_refusalAs.cls ≠ "java/lang/invoke/MethodHandle" ∧ yX4_refusalAs.cls ≠ "java/lang/invoke/VarHandle" ∧ (parseMethodDescriptor yX4_refusalAs.desc).map (fun d => d.parameters.length) = some 2 := by decide +kernel
set_option maxRecDepth 100000 in
set_option maxHeartbeats 4000000 in
theorem mX4_refusalAs (l : Launch) (D : va_G) (k : Nat → ClassId) (a : Nat → Nat) {P : Nat → Nat → Int32} {p1 : Int32} {p2 : Int32} {r : Int32}  (he : xX4_refusalAs P p1 p2 = some r) : CtI l D k yX4_refusalAs wsX4_refusalAs ({ frames := 1, cells := 0, slots := 0, locals := 21 } : Room) [.ref (a 0), .int p1, .int p2] (wPool k a P) r (wPool k a P) := by
  intro sz9
  refine cSt (lv := [(0, .ref (a 0)), (1, .int p1), (2, .int p2)]) (own := RX4) (cc := cX4_refusalAs) (nL := 6) (ret := (some .int)) (by decide +kernel) rfl rfl (Nat.le_of_ble_eq_true rfl) rfl ?_
  intro pp ee ss mm bl me co hsz hC0 hP hD hS ls hl
  subst hsz
  obtain ⟨hx, hb, hr, hml, hown, hts, hK, hlk⟩ := hC0
  have hA : ∀ q, ss.heap.size ≤ q → va_A (wPool k a P) ss.heap.size q := fun q h => Or.inr h
  have B51 : ∀ (y0 : Int32), xX4_refusalAs_51 P y0 = some r → ∀ (H : Heap) (locs : List Loc), va_P D vwCl (wPool k a P) H → va_D (va_A (wPool k a P) ss.heap.size) (wPool k a P) → va_S (va_A (wPool k a P) ss.heap.size) ss.heap H locs → ∀ ls : Array Slot, lv_has ls 6 [] → W pp l ee ({ frames := 1, cells := 0, slots := 0, locals := 21 } : Room) ss mm ([.ref (a 0), .int p1, .int p2] : List Value).toArray bl me co H locs 0 0 (MQ bl (cQi D k (wPool k a P) ss.heap.size r (wPool k a P)) ([.ref (a 0), .int p1, .int p2] : List Value).toArray ss 0 0 (va_A (wPool k a P) ss.heap.size)) (F0 mm 51 ls [.int y0]) := by
    intro y0 he H locs hP hD hS ls hl
    refine lv_istore (lv' := [(5, .int y0)]) hx hb dX4_refusalAs_51 hl (by decide) rfl (fun ls hl => ?_)
    refine lv_iload hx hb dX4_refusalAs_53 (lv_at hl 0 rfl) ?_
    refine lv_if_eq (tgt := 62) hx hb dX4_refusalAs_55 (by decide) (fun c1 => ?_) (fun c1 => ?_)
    · have he := ifp he c1
      refine lv_bipush (v := (-13)) hx hb dX4_refusalAs_62 (by decide) ?_
      obtain rfl := some1 he
      exact cRi hx hb hr hlk hK rfl hP hD hS dX4_refusalAs_64
    · have he := ifn he c1
      refine lv_iconst (v := 0) hx hb dX4_refusalAs_58 (by decide) ?_
      refine lv_goto (tgt := 64) hx hb dX4_refusalAs_59 (by decide) ?_
      obtain rfl := some1 he
      exact cRi hx hb hr hlk hK rfl hP hD hS dX4_refusalAs_64
  have B35 : ∀ (x2 : Int32) (x4 : Int32), xX4_refusalAs_35 P x2 x4 = some r → ∀ (H : Heap) (locs : List Loc), va_P D vwCl (wPool k a P) H → va_D (va_A (wPool k a P) ss.heap.size) (wPool k a P) → va_S (va_A (wPool k a P) ss.heap.size) ss.heap H locs → ∀ ls : Array Slot, lv_has ls 6 [(2, .int x2), (4, .int x4)] → W pp l ee ({ frames := 1, cells := 0, slots := 0, locals := 21 } : Room) ss mm ([.ref (a 0), .int p1, .int p2] : List Value).toArray bl me co H locs 0 0 (MQ bl (cQi D k (wPool k a P) ss.heap.size r (wPool k a P)) ([.ref (a 0), .int p1, .int p2] : List Value).toArray ss 0 0 (va_A (wPool k a P) ss.heap.size)) (F0 mm 35 ls []) := by
    intro x2 x4 he H locs hP hD hS ls hl
    refine lv_iload hx hb dX4_refusalAs_35 (lv_at hl 1 rfl) ?_
    refine lv_iconst (v := 3) hx hb dX4_refusalAs_37 (by decide) ?_
    refine lv_icmp_ne (tgt := 50) hx hb dX4_refusalAs_38 (by decide) (fun c2 => ?_) (fun c2 => ?_)
    · have he := ifn he c2
      refine lv_iconst (v := 0) hx hb dX4_refusalAs_50 (by decide) ?_
      exact B51 0 he H locs hP hD hS ls (lv_sub hl [] rfl)
    · have he := ifp he c2
      refine lv_iload_n hx hb dX4_refusalAs_41 rfl (lv_at hl 0 rfl) ?_
      refine lv_iconst (v := 2) hx hb dX4_refusalAs_42 (by decide) ?_
      refine lv_icmp_ne (tgt := 50) hx hb dX4_refusalAs_43 (by decide) (fun c3 => ?_) (fun c3 => ?_)
      · have he := ifn he c3
        refine lv_iconst (v := 0) hx hb dX4_refusalAs_50 (by decide) ?_
        exact B51 0 he H locs hP hD hS ls (lv_sub hl [] rfl)
      · have he := ifp he c3
        refine lv_iconst (v := 1) hx hb dX4_refusalAs_46 (by decide) ?_
        refine lv_goto (tgt := 51) hx hb dX4_refusalAs_47 (by decide) ?_
        exact B51 1 he H locs hP hD hS ls (lv_sub hl [] rfl)
  have hS0 := hS
  have key : ∀ (H : Heap) (locs : List Loc), H = ss.heap → locs = [] → va_P D vwCl (wPool k a P) H → va_S (va_A (wPool k a P) ss.heap.size) ss.heap H locs → W pp l ee ({ frames := 1, cells := 0, slots := 0, locals := 21 } : Room) ss mm ([.ref (a 0), .int p1, .int p2] : List Value).toArray bl me co H locs 0 0 (MQ bl (cQi D k (wPool k a P) ss.heap.size r (wPool k a P)) ([.ref (a 0), .int p1, .int p2] : List Value).toArray ss 0 0 (va_A (wPool k a P) ss.heap.size)) (F0 mm 0 ls []) := by
    intro H locs _ _ hP hS
    refine lv_aload_n hx hb dX4_refusalAs_0 rfl (lv_at hl 0 rfl) ?_
    refine lv_iload_n hx hb dX4_refusalAs_1 rfl (lv_at hl 1 rfl) ?_
    obtain ⟨v1001, h1002, he⟩ := bn1_i he
    refine cVir (As := [.int p1]) (rest := []) ⟨hx, hb, hml, hown, hts⟩ hK hA hP hD hS (mX4_refusalOfNumber l D k a (P := P) h1002) (cwV 1 hts gX4_refusalAs_X4_refusalOfNumber rfl rfl rfl kX4_refusalOfNumber ⟨Nat.le_of_ble_eq_true rfl, Nat.le_of_ble_eq_true rfl⟩) [0, 1, 2, 3, 4, 5, 6, 7, 8, 9] rfl rfl 0 rfl rfl rfl hl.1 rfl (Nat.le_of_ble_eq_true rfl) ⟨Nat.le_refl 0, Nat.le_refl 0⟩ dX4_refusalAs_2 (fun H locs hP hD hS => ?_)
    refine lv_istore_n (lv' := [(3, .int v1001), (0, .ref (a 0)), (1, .int p1), (2, .int p2)]) hx hb dX4_refusalAs_5 rfl hl (by decide) rfl (fun ls hl => ?_)
    refine lv_iload_n hx hb dX4_refusalAs_6 rfl (lv_at hl 0 rfl) ?_
    refine lv_if_eq (tgt := 12) hx hb dX4_refusalAs_7 (by decide) (fun c1003 => ?_) (fun c1003 => ?_)
    · have he := ifp he c1003
      refine lv_aload_n hx hb dX4_refusalAs_12 rfl (lv_at hl 1 rfl) ?_
      refine lv_iload_n hx hb dX4_refusalAs_13 rfl (lv_at hl 2 rfl) ?_
      obtain ⟨v1004, h1005, he⟩ := bn1_i he
      refine cVir (As := [.int p1]) (rest := []) ⟨hx, hb, hml, hown, hts⟩ hK hA hP hD hS (mX4_kindOf l D k a (P := P) h1005) (cwV 1 hts gX4_refusalAs_X4_kindOf rfl rfl rfl kX4_kindOf ⟨Nat.le_of_ble_eq_true rfl, Nat.le_of_ble_eq_true rfl⟩) [0, 1, 2, 3, 4, 5, 6, 7, 8, 9] rfl rfl 0 rfl rfl rfl hl.1 rfl (Nat.le_of_ble_eq_true rfl) ⟨Nat.le_refl 0, Nat.le_refl 0⟩ dX4_refusalAs_14 (fun H locs hP hD hS => ?_)
      refine lv_istore (lv' := [(4, .int v1004), (3, .int v1001), (0, .ref (a 0)), (1, .int p1), (2, .int p2)]) hx hb dX4_refusalAs_17 hl (by decide) rfl (fun ls hl => ?_)
      refine lv_iload hx hb dX4_refusalAs_19 (lv_at hl 0 rfl) ?_
      refine lv_iload_n hx hb dX4_refusalAs_21 rfl (lv_at hl 4 rfl) ?_
      refine lv_icmp_eq (tgt := 46) hx hb dX4_refusalAs_22 (by decide) (fun c1006 => ?_) (fun c1006 => ?_)
      · have he := ifp he c1006
        refine lv_iconst (v := 1) hx hb dX4_refusalAs_46 (by decide) ?_
        refine lv_goto (tgt := 51) hx hb dX4_refusalAs_47 (by decide) ?_
        exact B51 1 he H locs hP hD hS ls (lv_sub hl [] rfl)
      · have he := ifn he c1006
        refine lv_iload hx hb dX4_refusalAs_25 (lv_at hl 0 rfl) ?_
        refine lv_iconst (v := 1) hx hb dX4_refusalAs_27 (by decide) ?_
        refine lv_icmp_ne (tgt := 35) hx hb dX4_refusalAs_28 (by decide) (fun c1007 => ?_) (fun c1007 => ?_)
        · have he := ifn he c1007
          exact B35 p2 v1004 he H locs hP hD hS ls (lv_sub hl [4, 0] rfl)
        · have he := ifp he c1007
          refine lv_iload_n hx hb dX4_refusalAs_31 rfl (lv_at hl 4 rfl) ?_
          refine lv_if_eq (tgt := 46) hx hb dX4_refusalAs_32 (by decide) (fun c1008 => ?_) (fun c1008 => ?_)
          · have he := ifp he c1008
            refine lv_iconst (v := 1) hx hb dX4_refusalAs_46 (by decide) ?_
            refine lv_goto (tgt := 51) hx hb dX4_refusalAs_47 (by decide) ?_
            exact B51 1 he H locs hP hD hS ls (lv_sub hl [] rfl)
          · have he := ifn he c1008
            exact B35 p2 v1004 he H locs hP hD hS ls (lv_sub hl [4, 0] rfl)
    · have he := ifn he c1003
      refine lv_iload_n hx hb dX4_refusalAs_10 rfl (lv_at hl 0 rfl) ?_
      obtain rfl := some1 he
      exact cRi hx hb hr hlk hK rfl hP hD hS dX4_refusalAs_11
  exact key ss.heap [] rfl rfl hP hS
theorem kX4_quotaOf : yX4_quotaOf.cls = RX4 ∧ yX4_quotaOf.cls ≠ "java/lang/invoke/MethodHandle" ∧ yX4_quotaOf.cls ≠ "java/lang/invoke/VarHandle" ∧ (parseMethodDescriptor yX4_quotaOf.desc).map (fun d => d.parameters.length) = some 1 := by decide +kernel
set_option maxRecDepth 100000 in
set_option maxHeartbeats 4000000 in
theorem mX4_quotaOf (l : Launch) (D : va_G) (k : Nat → ClassId) (a : Nat → Nat) {P : Nat → Nat → Int32} {p1 : Int32} {r : Int32}  (he : xX4_quotaOf P p1 = some r) : CtI l D k yX4_quotaOf wsX4_quotaOf ({ frames := 0, cells := 0, slots := 0, locals := 0 } : Room) [.ref (a 0), .int p1] (wPool k a P) r (wPool k a P) := by
  intro sz9
  refine cSt (lv := [(0, .ref (a 0)), (1, .int p1)]) (own := RX4) (cc := cX4_quotaOf) (nL := 2) (ret := (some .int)) (by decide +kernel) rfl rfl (Nat.le_of_ble_eq_true rfl) rfl ?_
  intro pp ee ss mm bl me co hsz hC0 hP hD hS ls hl
  subst hsz
  obtain ⟨hx, hb, hr, hml, hown, hts, hK, hlk⟩ := hC0
  have hA : ∀ q, ss.heap.size ≤ q → va_A (wPool k a P) ss.heap.size q := fun q h => Or.inr h
  have iX4 : ∀ w ∈ wsX40, w ∈ wsX4_quotaOf := fun _ h => List.mem_cons_of_mem _ (List.mem_append_right _ h)
  have w1 := hts (.fieldLink RX4 27 "DeadListPool$Pool" "quota" "[I") (List.mem_of_getElem? (i := 1) rfl)
  have hS0 := hS
  have key : ∀ (H : Heap) (locs : List Loc), H = ss.heap → locs = [] → va_P D vwCl (wPool k a P) H → va_S (va_A (wPool k a P) ss.heap.size) ss.heap H locs → W pp l ee ({ frames := 0, cells := 0, slots := 0, locals := 0 } : Room) ss mm ([.ref (a 0), .int p1] : List Value).toArray bl me co H locs 0 0 (MQ bl (cQi D k (wPool k a P) ss.heap.size r (wPool k a P)) ([.ref (a 0), .int p1] : List Value).toArray ss 0 0 (va_A (wPool k a P) ss.heap.size)) (F0 mm 0 ls []) := by
    intro H locs _ _ hP hS
    refine lv_iload_n hx hb dX4_quotaOf_0 rfl (lv_at hl 1 rfl) ?_
    refine lv_if_lt (tgt := 19) hx hb dX4_quotaOf_1 (by decide) (fun c1001 => ?_) (fun c1001 => ?_)
    · have he := ifp he c1001
      refine lv_iconst (v := (-1)) hx hb dX4_quotaOf_19 (by decide) ?_
      obtain rfl := some1 he
      exact cRi hx hb hr hlk hK rfl hP hD hS dX4_quotaOf_20
    · have he := ifn he c1001
      refine lv_iload_n hx hb dX4_quotaOf_4 rfl (lv_at hl 1 rfl) ?_
      refine lv_bipush (v := 20) hx hb dX4_quotaOf_5 (by decide) ?_
      refine lv_icmp_ge (tgt := 19) hx hb dX4_quotaOf_7 (by decide) (fun c1002 => ?_) (fun c1002 => ?_)
      · have he := ifp he c1002
        refine lv_iconst (v := (-1)) hx hb dX4_quotaOf_19 (by decide) ?_
        obtain rfl := some1 he
        exact cRi hx hb hr hlk hK rfl hP hD hS dX4_quotaOf_20
      · have he := ifn he c1002
        refine lv_aload_n hx hb dX4_quotaOf_10 rfl (lv_at hl 0 rfl) ?_
        refine va_get (D := D) (ci := 4) (v := .ref (a 6)) (C := RX4) (T := TX4) (N := 11) hx hb hts iX4 hown hK hP 0 rfl rfl 5 (by decide) w1 (fun _ h9 => h9) rfl dX4_quotaOf_11 ?_
        refine lv_iload_n hx hb dX4_quotaOf_14 rfl (lv_at hl 1 rfl) ?_
        obtain ⟨h1003, he⟩ := grd_i he
        refine va_iald hx hb hK hP 6 0 rfl rfl (ix_in h1003) dX4_quotaOf_15 ?_
        refine lv_goto (tgt := 20) hx hb dX4_quotaOf_16 (by decide) ?_
        obtain rfl := some1 he
        exact cRi hx hb hr hlk hK rfl hP hD hS dX4_quotaOf_20
  exact key ss.heap [] rfl rfl hP hS
theorem kX4_blockIn : yX4_blockIn.cls = RX4 ∧ yX4_blockIn.cls ≠ "java/lang/invoke/MethodHandle" ∧ yX4_blockIn.cls ≠ "java/lang/invoke/VarHandle" ∧ (parseMethodDescriptor yX4_blockIn.desc).map (fun d => d.parameters.length) = some 2 := by decide +kernel
set_option maxRecDepth 100000 in
set_option maxHeartbeats 4000000 in
theorem mX4_blockIn (l : Launch) (D : va_G) (k : Nat → ClassId) (a : Nat → Nat) {P : Nat → Nat → Int32} {p1 : Int32} {p2 : Int32} {r : Int32}  (he : xX4_blockIn P p1 p2 = some r) : CtI l D k yX4_blockIn wsX4_blockIn ({ frames := 0, cells := 0, slots := 0, locals := 0 } : Room) [.ref (a 0), .int p1, .int p2] (wPool k a P) r (wPool k a P) := by
  intro sz9
  refine cSt (lv := [(0, .ref (a 0)), (1, .int p1), (2, .int p2)]) (own := RX4) (cc := cX4_blockIn) (nL := 3) (ret := (some .int)) (by decide +kernel) rfl rfl (Nat.le_of_ble_eq_true rfl) rfl ?_
  intro pp ee ss mm bl me co hsz hC0 hP hD hS ls hl
  subst hsz
  obtain ⟨hx, hb, hr, hml, hown, hts, hK, hlk⟩ := hC0
  have hA : ∀ q, ss.heap.size ≤ q → va_A (wPool k a P) ss.heap.size q := fun q h => Or.inr h
  have iX4 : ∀ w ∈ wsX40, w ∈ wsX4_blockIn := fun _ h => List.mem_cons_of_mem _ (List.mem_append_right _ h)
  have w1 := hts (.fieldLink RX4 30 "DeadListPool$Pool" "held" "[I") (List.mem_of_getElem? (i := 1) rfl)
  have hS0 := hS
  have key : ∀ (H : Heap) (locs : List Loc), H = ss.heap → locs = [] → va_P D vwCl (wPool k a P) H → va_S (va_A (wPool k a P) ss.heap.size) ss.heap H locs → W pp l ee ({ frames := 0, cells := 0, slots := 0, locals := 0 } : Room) ss mm ([.ref (a 0), .int p1, .int p2] : List Value).toArray bl me co H locs 0 0 (MQ bl (cQi D k (wPool k a P) ss.heap.size r (wPool k a P)) ([.ref (a 0), .int p1, .int p2] : List Value).toArray ss 0 0 (va_A (wPool k a P) ss.heap.size)) (F0 mm 0 ls []) := by
    intro H locs _ _ hP hS
    refine lv_iload_n hx hb dX4_blockIn_0 rfl (lv_at hl 1 rfl) ?_
    refine lv_if_lt (tgt := 34) hx hb dX4_blockIn_1 (by decide) (fun c1001 => ?_) (fun c1001 => ?_)
    · have he := ifp he c1001
      refine lv_iconst (v := (-1)) hx hb dX4_blockIn_34 (by decide) ?_
      obtain rfl := some1 he
      exact cRi hx hb hr hlk hK rfl hP hD hS dX4_blockIn_35
    · have he := ifn he c1001
      refine lv_iload_n hx hb dX4_blockIn_4 rfl (lv_at hl 1 rfl) ?_
      refine lv_bipush (v := 20) hx hb dX4_blockIn_5 (by decide) ?_
      refine lv_icmp_ge (tgt := 34) hx hb dX4_blockIn_7 (by decide) (fun c1002 => ?_) (fun c1002 => ?_)
      · have he := ifp he c1002
        refine lv_iconst (v := (-1)) hx hb dX4_blockIn_34 (by decide) ?_
        obtain rfl := some1 he
        exact cRi hx hb hr hlk hK rfl hP hD hS dX4_blockIn_35
      · have he := ifn he c1002
        refine lv_iload_n hx hb dX4_blockIn_10 rfl (lv_at hl 2 rfl) ?_
        refine lv_if_lt (tgt := 34) hx hb dX4_blockIn_11 (by decide) (fun c1003 => ?_) (fun c1003 => ?_)
        · have he := ifp he c1003
          refine lv_iconst (v := (-1)) hx hb dX4_blockIn_34 (by decide) ?_
          obtain rfl := some1 he
          exact cRi hx hb hr hlk hK rfl hP hD hS dX4_blockIn_35
        · have he := ifn he c1003
          refine lv_iload_n hx hb dX4_blockIn_14 rfl (lv_at hl 2 rfl) ?_
          refine lv_bipush (v := 12) hx hb dX4_blockIn_15 (by decide) ?_
          refine lv_icmp_ge (tgt := 34) hx hb dX4_blockIn_17 (by decide) (fun c1004 => ?_) (fun c1004 => ?_)
          · have he := ifp he c1004
            refine lv_iconst (v := (-1)) hx hb dX4_blockIn_34 (by decide) ?_
            obtain rfl := some1 he
            exact cRi hx hb hr hlk hK rfl hP hD hS dX4_blockIn_35
          · have he := ifn he c1004
            refine lv_aload_n hx hb dX4_blockIn_20 rfl (lv_at hl 0 rfl) ?_
            refine va_get (D := D) (ci := 4) (v := .ref (a 7)) (C := RX4) (T := TX4) (N := 11) hx hb hts iX4 hown hK hP 0 rfl rfl 6 (by decide) w1 (fun _ h9 => h9) rfl dX4_blockIn_21 ?_
            refine lv_iload_n hx hb dX4_blockIn_24 rfl (lv_at hl 1 rfl) ?_
            refine lv_bipush (v := 12) hx hb dX4_blockIn_25 (by decide) ?_
            refine lv_imul hx hb dX4_blockIn_27 ?_
            refine lv_iload_n hx hb dX4_blockIn_28 rfl (lv_at hl 2 rfl) ?_
            refine lv_iadd hx hb dX4_blockIn_29 ?_
            obtain ⟨h1005, he⟩ := grd_i he
            refine va_iald hx hb hK hP 7 0 rfl rfl (ix_in h1005) dX4_blockIn_30 ?_
            refine lv_goto (tgt := 35) hx hb dX4_blockIn_31 (by decide) ?_
            obtain rfl := some1 he
            exact cRi hx hb hr hlk hK rfl hP hD hS dX4_blockIn_35
  exact key ss.heap [] rfl rfl hP hS
theorem kX4_sizeOf : yX4_sizeOf.cls = RX4 ∧ yX4_sizeOf.cls ≠ "java/lang/invoke/MethodHandle" ∧ yX4_sizeOf.cls ≠ "java/lang/invoke/VarHandle" ∧ (parseMethodDescriptor yX4_sizeOf.desc).map (fun d => d.parameters.length) = some 1 := by decide +kernel
set_option maxRecDepth 100000 in
set_option maxHeartbeats 4000000 in
theorem mX4_sizeOf (l : Launch) (D : va_G) (k : Nat → ClassId) (a : Nat → Nat) {P : Nat → Nat → Int32} {p1 : Int32} {r : Int32}  (he : xX4_sizeOf P p1 = some r) : CtI l D k yX4_sizeOf wsX4_sizeOf ({ frames := 0, cells := 0, slots := 0, locals := 0 } : Room) [.ref (a 0), .int p1] (wPool k a P) r (wPool k a P) := by
  intro sz9
  refine cSt (lv := [(0, .ref (a 0)), (1, .int p1)]) (own := RX4) (cc := cX4_sizeOf) (nL := 2) (ret := (some .int)) (by decide +kernel) rfl rfl (Nat.le_of_ble_eq_true rfl) rfl ?_
  intro pp ee ss mm bl me co hsz hC0 hP hD hS ls hl
  subst hsz
  obtain ⟨hx, hb, hr, hml, hown, hts, hK, hlk⟩ := hC0
  have hA : ∀ q, ss.heap.size ≤ q → va_A (wPool k a P) ss.heap.size q := fun q h => Or.inr h
  have iX4 : ∀ w ∈ wsX40, w ∈ wsX4_sizeOf := fun _ h => List.mem_cons_of_mem _ (List.mem_append_right _ h)
  have w1 := hts (.fieldLink RX4 33 "DeadListPool$Pool" "size" "[I") (List.mem_of_getElem? (i := 1) rfl)
  have hS0 := hS
  have key : ∀ (H : Heap) (locs : List Loc), H = ss.heap → locs = [] → va_P D vwCl (wPool k a P) H → va_S (va_A (wPool k a P) ss.heap.size) ss.heap H locs → W pp l ee ({ frames := 0, cells := 0, slots := 0, locals := 0 } : Room) ss mm ([.ref (a 0), .int p1] : List Value).toArray bl me co H locs 0 0 (MQ bl (cQi D k (wPool k a P) ss.heap.size r (wPool k a P)) ([.ref (a 0), .int p1] : List Value).toArray ss 0 0 (va_A (wPool k a P) ss.heap.size)) (F0 mm 0 ls []) := by
    intro H locs _ _ hP hS
    refine lv_iload_n hx hb dX4_sizeOf_0 rfl (lv_at hl 1 rfl) ?_
    refine lv_if_lt (tgt := 19) hx hb dX4_sizeOf_1 (by decide) (fun c1001 => ?_) (fun c1001 => ?_)
    · have he := ifp he c1001
      refine lv_iconst (v := 0) hx hb dX4_sizeOf_19 (by decide) ?_
      obtain rfl := some1 he
      exact cRi hx hb hr hlk hK rfl hP hD hS dX4_sizeOf_20
    · have he := ifn he c1001
      refine lv_iload_n hx hb dX4_sizeOf_4 rfl (lv_at hl 1 rfl) ?_
      refine lv_bipush (v := 96) hx hb dX4_sizeOf_5 (by decide) ?_
      refine lv_icmp_ge (tgt := 19) hx hb dX4_sizeOf_7 (by decide) (fun c1002 => ?_) (fun c1002 => ?_)
      · have he := ifp he c1002
        refine lv_iconst (v := 0) hx hb dX4_sizeOf_19 (by decide) ?_
        obtain rfl := some1 he
        exact cRi hx hb hr hlk hK rfl hP hD hS dX4_sizeOf_20
      · have he := ifn he c1002
        refine lv_aload_n hx hb dX4_sizeOf_10 rfl (lv_at hl 0 rfl) ?_
        refine va_get (D := D) (ci := 4) (v := .ref (a 8)) (C := RX4) (T := TX4) (N := 11) hx hb hts iX4 hown hK hP 0 rfl rfl 7 (by decide) w1 (fun _ h9 => h9) rfl dX4_sizeOf_11 ?_
        refine lv_iload_n hx hb dX4_sizeOf_14 rfl (lv_at hl 1 rfl) ?_
        obtain ⟨h1003, he⟩ := grd_i he
        refine va_iald hx hb hK hP 8 0 rfl rfl (ix_in h1003) dX4_sizeOf_15 ?_
        refine lv_goto (tgt := 20) hx hb dX4_sizeOf_16 (by decide) ?_
        obtain rfl := some1 he
        exact cRi hx hb hr hlk hK rfl hP hD hS dX4_sizeOf_20
  exact key ss.heap [] rfl rfl hP hS
theorem kX4_spaceOf : yX4_spaceOf.cls = RX4 ∧ yX4_spaceOf.cls ≠ "java/lang/invoke/MethodHandle" ∧ yX4_spaceOf.cls ≠ "java/lang/invoke/VarHandle" ∧ (parseMethodDescriptor yX4_spaceOf.desc).map (fun d => d.parameters.length) = some 1 := by decide +kernel
set_option maxRecDepth 100000 in
set_option maxHeartbeats 4000000 in
theorem mX4_spaceOf (l : Launch) (D : va_G) (k : Nat → ClassId) (a : Nat → Nat) {P : Nat → Nat → Int32} {p1 : Int32} {r : Int64}  (he : xX4_spaceOf P p1 = some r) : CtL l D k yX4_spaceOf wsX4_spaceOf ({ frames := 1, cells := 0, slots := 0, locals := 22 } : Room) [.ref (a 0), .int p1] (wPool k a P) r (wPool k a P) := by
  intro sz9
  refine cSt (lv := [(0, .ref (a 0)), (1, .int p1)]) (own := RX4) (cc := cX4_spaceOf) (nL := 5) (ret := (some .long)) (by decide +kernel) rfl rfl (Nat.le_of_ble_eq_true rfl) rfl ?_
  intro pp ee ss mm bl me co hsz hC0 hP hD hS ls hl
  subst hsz
  obtain ⟨hx, hb, hr, hml, hown, hts, hK, hlk⟩ := hC0
  have hA : ∀ q, ss.heap.size ≤ q → va_A (wPool k a P) ss.heap.size q := fun q h => Or.inr h
  have B5 : ∀ (n5 : Nat) (x1 : Int32) (x2 : Int64) (x4 : Int32), xX4_spaceOf_5 P n5 x1 x2 x4 = some r → ∀ (H : Heap) (locs : List Loc), va_P D vwCl (wPool k a P) H → va_D (va_A (wPool k a P) ss.heap.size) (wPool k a P) → va_S (va_A (wPool k a P) ss.heap.size) ss.heap H locs → ∀ ls : Array Slot, lv_has ls 5 [(0, .ref (a 0)), (1, .int x1), (2, .long x2), (4, .int x4)] → W pp l ee ({ frames := 1, cells := 0, slots := 0, locals := 22 } : Room) ss mm ([.ref (a 0), .int p1] : List Value).toArray bl me co H locs 0 0 (MQ bl (cQl D k (wPool k a P) ss.heap.size r (wPool k a P)) ([.ref (a 0), .int p1] : List Value).toArray ss 0 0 (va_A (wPool k a P) ss.heap.size)) (F0 mm 5 ls []) := by
    intro n5
    induction n5 with
    | zero =>
      intro x1 x2 x4 he
      exact absurd (show (none : Option (Int64)) = some r from he) (by simp)
    | succ n5 ih5 =>
      intro x1 x2 x4 he H locs hP hD hS ls hl
      refine lv_iload hx hb dX4_spaceOf_5 (lv_at hl 3 rfl) ?_
      refine lv_bipush (v := 12) hx hb dX4_spaceOf_7 (by decide) ?_
      refine lv_icmp_ge (tgt := 33) hx hb dX4_spaceOf_9 (by decide) (fun c1 => ?_) (fun c1 => ?_)
      · have he := ifp he c1
        refine lv_lload_n hx hb dX4_spaceOf_33 rfl (lv_at hl 2 rfl) ?_
        obtain rfl := some1 he
        exact cRl hx hb hr hlk hK hP hD hS dX4_spaceOf_34
      · have he := ifn he c1
        refine lv_lload_n hx hb dX4_spaceOf_12 rfl (lv_at hl 2 rfl) ?_
        refine lv_aload_n hx hb dX4_spaceOf_13 rfl (lv_at hl 0 rfl) ?_
        refine lv_aload_n hx hb dX4_spaceOf_14 rfl (lv_at hl 0 rfl) ?_
        refine lv_iload_n hx hb dX4_spaceOf_15 rfl (lv_at hl 1 rfl) ?_
        refine lv_iload hx hb dX4_spaceOf_16 (lv_at hl 3 rfl) ?_
        obtain ⟨v2, h3, he⟩ := bn1_i he
        refine cVir (As := [.int x1, .int x4]) (rest := [.ref (a 0), .long x2]) ⟨hx, hb, hml, hown, hts⟩ hK hA hP hD hS (mX4_blockIn l D k a (P := P) h3) (cwV 2 hts gX4_spaceOf_X4_blockIn rfl rfl rfl kX4_blockIn ⟨Nat.le_of_ble_eq_true rfl, Nat.le_of_ble_eq_true rfl⟩) [0, 1, 2, 3, 4, 5, 6, 7, 8, 9] rfl rfl 0 rfl rfl rfl hl.1 rfl (Nat.le_of_ble_eq_true rfl) ⟨Nat.le_refl 0, Nat.le_refl 0⟩ dX4_spaceOf_18 (fun H locs hP hD hS => ?_)
        obtain ⟨v4, h5, he⟩ := bn1_i he
        refine cVir (As := [.int v2]) (rest := [.long x2]) ⟨hx, hb, hml, hown, hts⟩ hK hA hP hD hS (mX4_sizeOf l D k a (P := P) h5) (cwV 1 hts gX4_spaceOf_X4_sizeOf rfl rfl rfl kX4_sizeOf ⟨Nat.le_of_ble_eq_true rfl, Nat.le_of_ble_eq_true rfl⟩) [0, 1, 2, 3, 4, 5, 6, 7, 8, 9] rfl rfl 0 rfl rfl rfl hl.1 rfl (Nat.le_of_ble_eq_true rfl) ⟨Nat.le_refl 0, Nat.le_refl 0⟩ dX4_spaceOf_21 (fun H locs hP hD hS => ?_)
        refine lv_i2l (v := (Int32.toInt64 v4)) hx hb dX4_spaceOf_24 rfl ?_
        refine lv_ladd hx hb dX4_spaceOf_25 ?_
        refine lv_lstore_n (lv' := [(2, .long (x2 + (Int32.toInt64 v4))), (0, .ref (a 0)), (1, .int x1), (4, .int x4)]) hx hb dX4_spaceOf_26 rfl hl (by decide) rfl (fun ls hl => ?_)
        refine lv_iinc (v := (x4 + 1)) (lv' := [(4, .int (x4 + 1)), (2, .long (x2 + (Int32.toInt64 v4))), (0, .ref (a 0)), (1, .int x1)]) hx hb dX4_spaceOf_27 hl (k := 3) rfl rfl (by decide) rfl (fun ls hl => ?_)
        refine lv_goto (tgt := 5) hx hb dX4_spaceOf_30 (by decide) ?_
        exact ih5 x1 (x2 + (Int32.toInt64 v4)) (x4 + 1) he H locs hP hD hS ls (lv_sub hl [2, 3, 1, 0] rfl)
  have hS0 := hS
  have key : ∀ (H : Heap) (locs : List Loc), H = ss.heap → locs = [] → va_P D vwCl (wPool k a P) H → va_S (va_A (wPool k a P) ss.heap.size) ss.heap H locs → W pp l ee ({ frames := 1, cells := 0, slots := 0, locals := 22 } : Room) ss mm ([.ref (a 0), .int p1] : List Value).toArray bl me co H locs 0 0 (MQ bl (cQl D k (wPool k a P) ss.heap.size r (wPool k a P)) ([.ref (a 0), .int p1] : List Value).toArray ss 0 0 (va_A (wPool k a P) ss.heap.size)) (F0 mm 0 ls []) := by
    intro H locs _ _ hP hS
    refine lv_lconst (v := 0) hx hb dX4_spaceOf_0 (by decide) ?_
    refine lv_lstore_n (lv' := [(2, .long 0), (0, .ref (a 0)), (1, .int p1)]) hx hb dX4_spaceOf_1 rfl hl (by decide) rfl (fun ls hl => ?_)
    refine lv_iconst (v := 0) hx hb dX4_spaceOf_2 (by decide) ?_
    refine lv_istore (lv' := [(4, .int 0), (2, .long 0), (0, .ref (a 0)), (1, .int p1)]) hx hb dX4_spaceOf_3 hl (by decide) rfl (fun ls hl => ?_)
    exact B5 600 p1 0 0 he H locs hP hD hS ls (lv_sub hl [2, 3, 1, 0] rfl)
  exact key ss.heap [] rfl rfl hP hS
theorem kX4_newBlock : yX4_newBlock.cls = RX4 ∧ yX4_newBlock.cls ≠ "java/lang/invoke/MethodHandle" ∧ yX4_newBlock.cls ≠ "java/lang/invoke/VarHandle" ∧ (parseMethodDescriptor yX4_newBlock.desc).map (fun d => d.parameters.length) = some 1 := by decide +kernel
set_option maxRecDepth 100000 in
set_option maxHeartbeats 4000000 in
theorem mX4_newBlock (l : Launch) (D : va_G) (k : Nat → ClassId) (a : Nat → Nat) {P_0 : Nat → Nat → Int32} {p1 : Int32} {r : Int32} {P' : Nat → Nat → Int32} (he : xX4_newBlock P_0 p1 = some (r, P')) : CtI l D k yX4_newBlock wsX4_newBlock ({ frames := 0, cells := 0, slots := 0, locals := 0 } : Room) [.ref (a 0), .int p1] (wPool k a P_0) r (wPool k a P') := by
  intro sz9
  refine cSt (lv := [(0, .ref (a 0)), (1, .int p1)]) (own := RX4) (cc := cX4_newBlock) (nL := 3) (ret := (some .int)) (by decide +kernel) rfl rfl (Nat.le_of_ble_eq_true rfl) rfl ?_
  intro pp ee ss mm bl me co hsz hC0 hP hD hS ls hl
  subst hsz
  obtain ⟨hx, hb, hr, hml, hown, hts, hK, hlk⟩ := hC0
  have hA : ∀ q, ss.heap.size ≤ q → va_A (wPool k a P_0) ss.heap.size q := fun q h => Or.inr h
  have iX4 : ∀ w ∈ wsX40, w ∈ wsX4_newBlock := fun _ h => List.mem_cons_of_mem _ (List.mem_append_right _ h)
  have w1 := hts (.fieldLink RX4 33 "DeadListPool$Pool" "size" "[I") (List.mem_of_getElem? (i := 1) rfl)
  have w2 := hts (.fieldLink RX4 36 "DeadListPool$Pool" "birth" "[I") (List.mem_of_getElem? (i := 2) rfl)
  have w3 := hts (.fieldLink RX4 39 "DeadListPool$Pool" "time" "I") (List.mem_of_getElem? (i := 3) rfl)
  have B2 : ∀ (n2 : Nat) (x1 : Int32) (x2 : Int32) (P : Nat → Nat → Int32), xX4_newBlock_2 n2 x1 x2 P = some (r, P') → ∀ (H : Heap) (locs : List Loc), va_P D vwCl (wPool k a P) H → va_D (va_A (wPool k a P_0) ss.heap.size) (wPool k a P) → va_S (va_A (wPool k a P_0) ss.heap.size) ss.heap H locs → ∀ ls : Array Slot, lv_has ls 3 [(0, .ref (a 0)), (1, .int x1), (2, .int x2)] → W pp l ee ({ frames := 0, cells := 0, slots := 0, locals := 0 } : Room) ss mm ([.ref (a 0), .int p1] : List Value).toArray bl me co H locs 0 0 (MQ bl (cQi D k (wPool k a P_0) ss.heap.size r (wPool k a P')) ([.ref (a 0), .int p1] : List Value).toArray ss 0 0 (va_A (wPool k a P_0) ss.heap.size)) (F0 mm 2 ls []) := by
    intro n2
    induction n2 with
    | zero =>
      intro x1 x2 P he
      exact absurd (show (none : Option (Int32 × (Nat → Nat → Int32))) = some (r, P') from he) (by simp)
    | succ n2 ih2 =>
      intro x1 x2 P he H locs hP hD hS ls hl
      refine lv_iload_n hx hb dX4_newBlock_2 rfl (lv_at hl 2 rfl) ?_
      refine lv_bipush (v := 96) hx hb dX4_newBlock_3 (by decide) ?_
      refine lv_icmp_ge (tgt := 42) hx hb dX4_newBlock_5 (by decide) (fun c1 => ?_) (fun c1 => ?_)
      · have he := ifp he c1
        refine lv_bipush (v := (-4)) hx hb dX4_newBlock_42 (by decide) ?_
        obtain ⟨rfl, rfl⟩ := some2 he
        exact cRi hx hb hr hlk hK rfl hP hD hS dX4_newBlock_44
      · have he := ifn he c1
        refine lv_aload_n hx hb dX4_newBlock_8 rfl (lv_at hl 0 rfl) ?_
        refine va_get (D := D) (ci := 4) (v := .ref (a 8)) (C := RX4) (T := TX4) (N := 11) hx hb hts iX4 hown hK hP 0 rfl rfl 7 (by decide) w1 (fun _ h9 => h9) rfl dX4_newBlock_9 ?_
        refine lv_iload_n hx hb dX4_newBlock_12 rfl (lv_at hl 2 rfl) ?_
        obtain ⟨h2, he⟩ := grd_i he
        refine va_iald hx hb hK hP 8 0 rfl rfl (ix_in h2) dX4_newBlock_13 ?_
        refine lv_if_ne (tgt := 36) hx hb dX4_newBlock_14 (by decide) (fun c3 => ?_) (fun c3 => ?_)
        · have he := ifn he c3
          refine lv_iinc (v := (x2 + 1)) (lv' := [(2, .int (x2 + 1)), (0, .ref (a 0)), (1, .int x1)]) hx hb dX4_newBlock_36 hl (k := 2) rfl rfl (by decide) rfl (fun ls hl => ?_)
          refine lv_goto (tgt := 2) hx hb dX4_newBlock_39 (by decide) ?_
          exact ih2 x1 (x2 + 1) P he H locs hP hD hS ls (lv_sub hl [1, 2, 0] rfl)
        · have he := ifp he c3
          refine lv_aload_n hx hb dX4_newBlock_17 rfl (lv_at hl 0 rfl) ?_
          refine va_get (D := D) (ci := 4) (v := .ref (a 8)) (C := RX4) (T := TX4) (N := 11) hx hb hts iX4 hown hK hP 0 rfl rfl 7 (by decide) w1 (fun _ h9 => h9) rfl dX4_newBlock_18 ?_
          refine lv_iload_n hx hb dX4_newBlock_21 rfl (lv_at hl 2 rfl) ?_
          refine lv_iload_n hx hb dX4_newBlock_22 rfl (lv_at hl 1 rfl) ?_
          obtain ⟨h4, he⟩ := grd_i he
          obtain ⟨P5, e6, he⟩ := lt_i he
          refine va_iast hx hb hK hP hD hS 8 0 rfl rfl (ix_in h4) dX4_newBlock_23 (fun H locs hP hD hS => ?_)
          have hP : va_P D vwCl (wPool k a P5) H := by rw [e6]; exact hP
          have hD : va_D _ (wPool k a P5) := va_D_adr (by rw [e6]; rfl) hD
          refine lv_aload_n hx hb dX4_newBlock_24 rfl (lv_at hl 0 rfl) ?_
          refine va_get (D := D) (ci := 4) (v := .ref (a 9)) (C := RX4) (T := TX4) (N := 11) hx hb hts iX4 hown hK hP 0 rfl rfl 8 (by decide) w2 (fun _ h9 => h9) rfl dX4_newBlock_25 ?_
          refine lv_iload_n hx hb dX4_newBlock_28 rfl (lv_at hl 2 rfl) ?_
          refine lv_aload_n hx hb dX4_newBlock_29 rfl (lv_at hl 0 rfl) ?_
          refine va_get (D := D) (ci := 4) (v := .int (P5 9 0)) (C := RX4) (T := TX4) (N := 11) hx hb hts iX4 hown hK hP 0 rfl rfl 9 (by decide) w3 (fun _ h9 => h9) rfl dX4_newBlock_30 ?_
          obtain ⟨h7, he⟩ := grd_i he
          obtain ⟨P8, e9, he⟩ := lt_i he
          refine va_iast hx hb hK hP hD hS 9 0 rfl rfl (ix_in h7) dX4_newBlock_33 (fun H locs hP hD hS => ?_)
          have hP : va_P D vwCl (wPool k a P8) H := by rw [e9]; exact hP
          have hD : va_D _ (wPool k a P8) := va_D_adr (by rw [e9]; rfl) hD
          refine lv_iload_n hx hb dX4_newBlock_34 rfl (lv_at hl 2 rfl) ?_
          obtain ⟨rfl, rfl⟩ := some2 he
          exact cRi hx hb hr hlk hK rfl hP hD hS dX4_newBlock_35
  have hS0 := hS
  have key : ∀ (H : Heap) (locs : List Loc), H = ss.heap → locs = [] → va_P D vwCl (wPool k a P_0) H → va_S (va_A (wPool k a P_0) ss.heap.size) ss.heap H locs → W pp l ee ({ frames := 0, cells := 0, slots := 0, locals := 0 } : Room) ss mm ([.ref (a 0), .int p1] : List Value).toArray bl me co H locs 0 0 (MQ bl (cQi D k (wPool k a P_0) ss.heap.size r (wPool k a P')) ([.ref (a 0), .int p1] : List Value).toArray ss 0 0 (va_A (wPool k a P_0) ss.heap.size)) (F0 mm 0 ls []) := by
    intro H locs _ _ hP hS
    refine lv_iconst (v := 0) hx hb dX4_newBlock_0 (by decide) ?_
    refine lv_istore_n (lv' := [(2, .int 0), (0, .ref (a 0)), (1, .int p1)]) hx hb dX4_newBlock_1 rfl hl (by decide) rfl (fun ls hl => ?_)
    exact B2 600 p1 0 P_0 he H locs hP hD hS ls (lv_sub hl [1, 2, 0] rfl)
  exact key ss.heap [] rfl rfl hP hS
theorem kX4_setSlot : yX4_setSlot.cls = RX4 ∧ yX4_setSlot.cls ≠ "java/lang/invoke/MethodHandle" ∧ yX4_setSlot.cls ≠ "java/lang/invoke/VarHandle" ∧ (parseMethodDescriptor yX4_setSlot.desc).map (fun d => d.parameters.length) = some 3 := by decide +kernel
set_option maxRecDepth 100000 in
set_option maxHeartbeats 4000000 in
theorem mX4_setSlot (l : Launch) (D : va_G) (k : Nat → ClassId) (a : Nat → Nat) {P_0 : Nat → Nat → Int32} {p1 : Int32} {p2 : Int32} {p3 : Int32} {P' : Nat → Nat → Int32} (he : xX4_setSlot P_0 p1 p2 p3 = some P') : CtV l D k yX4_setSlot wsX4_setSlot ({ frames := 0, cells := 0, slots := 0, locals := 0 } : Room) [.ref (a 0), .int p1, .int p2, .int p3] (wPool k a P_0) (wPool k a P') := by
  intro sz9
  refine cSt (lv := [(0, .ref (a 0)), (1, .int p1), (2, .int p2), (3, .int p3)]) (own := RX4) (cc := cX4_setSlot) (nL := 4) (ret := none) (by decide +kernel) rfl rfl (Nat.le_of_ble_eq_true rfl) rfl ?_
  intro pp ee ss mm bl me co hsz hC0 hP hD hS ls hl
  subst hsz
  obtain ⟨hx, hb, hr, hml, hown, hts, hK, hlk⟩ := hC0
  have hA : ∀ q, ss.heap.size ≤ q → va_A (wPool k a P_0) ss.heap.size q := fun q h => Or.inr h
  have iX4 : ∀ w ∈ wsX40, w ∈ wsX4_setSlot := fun _ h => List.mem_cons_of_mem _ (List.mem_append_right _ h)
  have w1 := hts (.fieldLink RX4 30 "DeadListPool$Pool" "held" "[I") (List.mem_of_getElem? (i := 1) rfl)
  have hS0 := hS
  have key : ∀ (H : Heap) (locs : List Loc), H = ss.heap → locs = [] → va_P D vwCl (wPool k a P_0) H → va_S (va_A (wPool k a P_0) ss.heap.size) ss.heap H locs → W pp l ee ({ frames := 0, cells := 0, slots := 0, locals := 0 } : Room) ss mm ([.ref (a 0), .int p1, .int p2, .int p3] : List Value).toArray bl me co H locs 0 0 (MQ bl (cQv D k (wPool k a P_0) ss.heap.size (wPool k a P')) ([.ref (a 0), .int p1, .int p2, .int p3] : List Value).toArray ss 0 0 (va_A (wPool k a P_0) ss.heap.size)) (F0 mm 0 ls []) := by
    intro H locs _ _ hP hS
    refine lv_iload_n hx hb dX4_setSlot_0 rfl (lv_at hl 1 rfl) ?_
    refine lv_if_lt (tgt := 32) hx hb dX4_setSlot_1 (by decide) (fun c1001 => ?_) (fun c1001 => ?_)
    · have he := ifp he c1001
      obtain rfl := some1 he
      exact cRv hx hb hr hlk hK hP hD hS dX4_setSlot_32
    · have he := ifn he c1001
      refine lv_iload_n hx hb dX4_setSlot_4 rfl (lv_at hl 1 rfl) ?_
      refine lv_bipush (v := 20) hx hb dX4_setSlot_5 (by decide) ?_
      refine lv_icmp_ge (tgt := 32) hx hb dX4_setSlot_7 (by decide) (fun c1002 => ?_) (fun c1002 => ?_)
      · have he := ifp he c1002
        obtain rfl := some1 he
        exact cRv hx hb hr hlk hK hP hD hS dX4_setSlot_32
      · have he := ifn he c1002
        refine lv_iload_n hx hb dX4_setSlot_10 rfl (lv_at hl 2 rfl) ?_
        refine lv_if_lt (tgt := 32) hx hb dX4_setSlot_11 (by decide) (fun c1003 => ?_) (fun c1003 => ?_)
        · have he := ifp he c1003
          obtain rfl := some1 he
          exact cRv hx hb hr hlk hK hP hD hS dX4_setSlot_32
        · have he := ifn he c1003
          refine lv_iload_n hx hb dX4_setSlot_14 rfl (lv_at hl 2 rfl) ?_
          refine lv_bipush (v := 12) hx hb dX4_setSlot_15 (by decide) ?_
          refine lv_icmp_ge (tgt := 32) hx hb dX4_setSlot_17 (by decide) (fun c1004 => ?_) (fun c1004 => ?_)
          · have he := ifp he c1004
            obtain rfl := some1 he
            exact cRv hx hb hr hlk hK hP hD hS dX4_setSlot_32
          · have he := ifn he c1004
            refine lv_aload_n hx hb dX4_setSlot_20 rfl (lv_at hl 0 rfl) ?_
            refine va_get (D := D) (ci := 4) (v := .ref (a 7)) (C := RX4) (T := TX4) (N := 11) hx hb hts iX4 hown hK hP 0 rfl rfl 6 (by decide) w1 (fun _ h9 => h9) rfl dX4_setSlot_21 ?_
            refine lv_iload_n hx hb dX4_setSlot_24 rfl (lv_at hl 1 rfl) ?_
            refine lv_bipush (v := 12) hx hb dX4_setSlot_25 (by decide) ?_
            refine lv_imul hx hb dX4_setSlot_27 ?_
            refine lv_iload_n hx hb dX4_setSlot_28 rfl (lv_at hl 2 rfl) ?_
            refine lv_iadd hx hb dX4_setSlot_29 ?_
            refine lv_iload_n hx hb dX4_setSlot_30 rfl (lv_at hl 3 rfl) ?_
            obtain ⟨h1005, he⟩ := grd_i he
            obtain ⟨P1006, e1007, he⟩ := lt_i he
            refine va_iast hx hb hK hP hD hS 7 0 rfl rfl (ix_in h1005) dX4_setSlot_31 (fun H locs hP hD hS => ?_)
            have hP : va_P D vwCl (wPool k a P1006) H := by rw [e1007]; exact hP
            have hD : va_D _ (wPool k a P1006) := va_D_adr (by rw [e1007]; rfl) hD
            obtain rfl := some1 he
            exact cRv hx hb hr hlk hK hP hD hS dX4_setSlot_32
  exact key ss.heap [] rfl rfl hP hS
theorem kX4_birthOf : yX4_birthOf.cls = RX4 ∧ yX4_birthOf.cls ≠ "java/lang/invoke/MethodHandle" ∧ yX4_birthOf.cls ≠ "java/lang/invoke/VarHandle" ∧ (parseMethodDescriptor yX4_birthOf.desc).map (fun d => d.parameters.length) = some 1 := by decide +kernel
set_option maxRecDepth 100000 in
set_option maxHeartbeats 4000000 in
theorem mX4_birthOf (l : Launch) (D : va_G) (k : Nat → ClassId) (a : Nat → Nat) {P : Nat → Nat → Int32} {p1 : Int32} {r : Int32}  (he : xX4_birthOf P p1 = some r) : CtI l D k yX4_birthOf wsX4_birthOf ({ frames := 0, cells := 0, slots := 0, locals := 0 } : Room) [.ref (a 0), .int p1] (wPool k a P) r (wPool k a P) := by
  intro sz9
  refine cSt (lv := [(0, .ref (a 0)), (1, .int p1)]) (own := RX4) (cc := cX4_birthOf) (nL := 2) (ret := (some .int)) (by decide +kernel) rfl rfl (Nat.le_of_ble_eq_true rfl) rfl ?_
  intro pp ee ss mm bl me co hsz hC0 hP hD hS ls hl
  subst hsz
  obtain ⟨hx, hb, hr, hml, hown, hts, hK, hlk⟩ := hC0
  have hA : ∀ q, ss.heap.size ≤ q → va_A (wPool k a P) ss.heap.size q := fun q h => Or.inr h
  have iX4 : ∀ w ∈ wsX40, w ∈ wsX4_birthOf := fun _ h => List.mem_cons_of_mem _ (List.mem_append_right _ h)
  have w1 := hts (.fieldLink RX4 36 "DeadListPool$Pool" "birth" "[I") (List.mem_of_getElem? (i := 1) rfl)
  have hS0 := hS
  have key : ∀ (H : Heap) (locs : List Loc), H = ss.heap → locs = [] → va_P D vwCl (wPool k a P) H → va_S (va_A (wPool k a P) ss.heap.size) ss.heap H locs → W pp l ee ({ frames := 0, cells := 0, slots := 0, locals := 0 } : Room) ss mm ([.ref (a 0), .int p1] : List Value).toArray bl me co H locs 0 0 (MQ bl (cQi D k (wPool k a P) ss.heap.size r (wPool k a P)) ([.ref (a 0), .int p1] : List Value).toArray ss 0 0 (va_A (wPool k a P) ss.heap.size)) (F0 mm 0 ls []) := by
    intro H locs _ _ hP hS
    refine lv_iload_n hx hb dX4_birthOf_0 rfl (lv_at hl 1 rfl) ?_
    refine lv_if_lt (tgt := 19) hx hb dX4_birthOf_1 (by decide) (fun c1001 => ?_) (fun c1001 => ?_)
    · have he := ifp he c1001
      refine lv_iconst (v := 0) hx hb dX4_birthOf_19 (by decide) ?_
      obtain rfl := some1 he
      exact cRi hx hb hr hlk hK rfl hP hD hS dX4_birthOf_20
    · have he := ifn he c1001
      refine lv_iload_n hx hb dX4_birthOf_4 rfl (lv_at hl 1 rfl) ?_
      refine lv_bipush (v := 96) hx hb dX4_birthOf_5 (by decide) ?_
      refine lv_icmp_ge (tgt := 19) hx hb dX4_birthOf_7 (by decide) (fun c1002 => ?_) (fun c1002 => ?_)
      · have he := ifp he c1002
        refine lv_iconst (v := 0) hx hb dX4_birthOf_19 (by decide) ?_
        obtain rfl := some1 he
        exact cRi hx hb hr hlk hK rfl hP hD hS dX4_birthOf_20
      · have he := ifn he c1002
        refine lv_aload_n hx hb dX4_birthOf_10 rfl (lv_at hl 0 rfl) ?_
        refine va_get (D := D) (ci := 4) (v := .ref (a 9)) (C := RX4) (T := TX4) (N := 11) hx hb hts iX4 hown hK hP 0 rfl rfl 8 (by decide) w1 (fun _ h9 => h9) rfl dX4_birthOf_11 ?_
        refine lv_iload_n hx hb dX4_birthOf_14 rfl (lv_at hl 1 rfl) ?_
        obtain ⟨h1003, he⟩ := grd_i he
        refine va_iald hx hb hK hP 9 0 rfl rfl (ix_in h1003) dX4_birthOf_15 ?_
        refine lv_goto (tgt := 20) hx hb dX4_birthOf_16 (by decide) ?_
        obtain rfl := some1 he
        exact cRi hx hb hr hlk hK rfl hP hD hS dX4_birthOf_20
  exact key ss.heap [] rfl rfl hP hS
theorem kX4_prevOf : yX4_prevOf.cls = RX4 ∧ yX4_prevOf.cls ≠ "java/lang/invoke/MethodHandle" ∧ yX4_prevOf.cls ≠ "java/lang/invoke/VarHandle" ∧ (parseMethodDescriptor yX4_prevOf.desc).map (fun d => d.parameters.length) = some 1 := by decide +kernel
set_option maxRecDepth 100000 in
set_option maxHeartbeats 4000000 in
theorem mX4_prevOf (l : Launch) (D : va_G) (k : Nat → ClassId) (a : Nat → Nat) {P : Nat → Nat → Int32} {p1 : Int32} {r : Int32}  (he : xX4_prevOf P p1 = some r) : CtI l D k yX4_prevOf wsX4_prevOf ({ frames := 0, cells := 0, slots := 0, locals := 0 } : Room) [.ref (a 0), .int p1] (wPool k a P) r (wPool k a P) := by
  intro sz9
  refine cSt (lv := [(0, .ref (a 0)), (1, .int p1)]) (own := RX4) (cc := cX4_prevOf) (nL := 2) (ret := (some .int)) (by decide +kernel) rfl rfl (Nat.le_of_ble_eq_true rfl) rfl ?_
  intro pp ee ss mm bl me co hsz hC0 hP hD hS ls hl
  subst hsz
  obtain ⟨hx, hb, hr, hml, hown, hts, hK, hlk⟩ := hC0
  have hA : ∀ q, ss.heap.size ≤ q → va_A (wPool k a P) ss.heap.size q := fun q h => Or.inr h
  have iX4 : ∀ w ∈ wsX40, w ∈ wsX4_prevOf := fun _ h => List.mem_cons_of_mem _ (List.mem_append_right _ h)
  have w1 := hts (.fieldLink RX4 18 "DeadListPool$Pool" "prev" "[I") (List.mem_of_getElem? (i := 1) rfl)
  have hS0 := hS
  have key : ∀ (H : Heap) (locs : List Loc), H = ss.heap → locs = [] → va_P D vwCl (wPool k a P) H → va_S (va_A (wPool k a P) ss.heap.size) ss.heap H locs → W pp l ee ({ frames := 0, cells := 0, slots := 0, locals := 0 } : Room) ss mm ([.ref (a 0), .int p1] : List Value).toArray bl me co H locs 0 0 (MQ bl (cQi D k (wPool k a P) ss.heap.size r (wPool k a P)) ([.ref (a 0), .int p1] : List Value).toArray ss 0 0 (va_A (wPool k a P) ss.heap.size)) (F0 mm 0 ls []) := by
    intro H locs _ _ hP hS
    refine lv_iload_n hx hb dX4_prevOf_0 rfl (lv_at hl 1 rfl) ?_
    refine lv_if_lt (tgt := 19) hx hb dX4_prevOf_1 (by decide) (fun c1001 => ?_) (fun c1001 => ?_)
    · have he := ifp he c1001
      refine lv_iconst (v := (-1)) hx hb dX4_prevOf_19 (by decide) ?_
      obtain rfl := some1 he
      exact cRi hx hb hr hlk hK rfl hP hD hS dX4_prevOf_20
    · have he := ifn he c1001
      refine lv_iload_n hx hb dX4_prevOf_4 rfl (lv_at hl 1 rfl) ?_
      refine lv_bipush (v := 20) hx hb dX4_prevOf_5 (by decide) ?_
      refine lv_icmp_ge (tgt := 19) hx hb dX4_prevOf_7 (by decide) (fun c1002 => ?_) (fun c1002 => ?_)
      · have he := ifp he c1002
        refine lv_iconst (v := (-1)) hx hb dX4_prevOf_19 (by decide) ?_
        obtain rfl := some1 he
        exact cRi hx hb hr hlk hK rfl hP hD hS dX4_prevOf_20
      · have he := ifn he c1002
        refine lv_aload_n hx hb dX4_prevOf_10 rfl (lv_at hl 0 rfl) ?_
        refine va_get (D := D) (ci := 4) (v := .ref (a 3)) (C := RX4) (T := TX4) (N := 11) hx hb hts iX4 hown hK hP 0 rfl rfl 2 (by decide) w1 (fun _ h9 => h9) rfl dX4_prevOf_11 ?_
        refine lv_iload_n hx hb dX4_prevOf_14 rfl (lv_at hl 1 rfl) ?_
        obtain ⟨h1003, he⟩ := grd_i he
        refine va_iald hx hb hK hP 3 0 rfl rfl (ix_in h1003) dX4_prevOf_15 ?_
        refine lv_goto (tgt := 20) hx hb dX4_prevOf_16 (by decide) ?_
        obtain rfl := some1 he
        exact cRi hx hb hr hlk hK rfl hP hD hS dX4_prevOf_20
  exact key ss.heap [] rfl rfl hP hS
theorem kX4_madeOf : yX4_madeOf.cls = RX4 ∧ yX4_madeOf.cls ≠ "java/lang/invoke/MethodHandle" ∧ yX4_madeOf.cls ≠ "java/lang/invoke/VarHandle" ∧ (parseMethodDescriptor yX4_madeOf.desc).map (fun d => d.parameters.length) = some 1 := by decide +kernel
set_option maxRecDepth 100000 in
set_option maxHeartbeats 4000000 in
theorem mX4_madeOf (l : Launch) (D : va_G) (k : Nat → ClassId) (a : Nat → Nat) {P : Nat → Nat → Int32} {p1 : Int32} {r : Int32}  (he : xX4_madeOf P p1 = some r) : CtI l D k yX4_madeOf wsX4_madeOf ({ frames := 0, cells := 0, slots := 0, locals := 0 } : Room) [.ref (a 0), .int p1] (wPool k a P) r (wPool k a P) := by
  intro sz9
  refine cSt (lv := [(0, .ref (a 0)), (1, .int p1)]) (own := RX4) (cc := cX4_madeOf) (nL := 2) (ret := (some .int)) (by decide +kernel) rfl rfl (Nat.le_of_ble_eq_true rfl) rfl ?_
  intro pp ee ss mm bl me co hsz hC0 hP hD hS ls hl
  subst hsz
  obtain ⟨hx, hb, hr, hml, hown, hts, hK, hlk⟩ := hC0
  have hA : ∀ q, ss.heap.size ≤ q → va_A (wPool k a P) ss.heap.size q := fun q h => Or.inr h
  have iX4 : ∀ w ∈ wsX40, w ∈ wsX4_madeOf := fun _ h => List.mem_cons_of_mem _ (List.mem_append_right _ h)
  have w1 := hts (.fieldLink RX4 15 "DeadListPool$Pool" "made" "[I") (List.mem_of_getElem? (i := 1) rfl)
  have hS0 := hS
  have key : ∀ (H : Heap) (locs : List Loc), H = ss.heap → locs = [] → va_P D vwCl (wPool k a P) H → va_S (va_A (wPool k a P) ss.heap.size) ss.heap H locs → W pp l ee ({ frames := 0, cells := 0, slots := 0, locals := 0 } : Room) ss mm ([.ref (a 0), .int p1] : List Value).toArray bl me co H locs 0 0 (MQ bl (cQi D k (wPool k a P) ss.heap.size r (wPool k a P)) ([.ref (a 0), .int p1] : List Value).toArray ss 0 0 (va_A (wPool k a P) ss.heap.size)) (F0 mm 0 ls []) := by
    intro H locs _ _ hP hS
    refine lv_iload_n hx hb dX4_madeOf_0 rfl (lv_at hl 1 rfl) ?_
    refine lv_if_lt (tgt := 19) hx hb dX4_madeOf_1 (by decide) (fun c1001 => ?_) (fun c1001 => ?_)
    · have he := ifp he c1001
      refine lv_iconst (v := 0) hx hb dX4_madeOf_19 (by decide) ?_
      obtain rfl := some1 he
      exact cRi hx hb hr hlk hK rfl hP hD hS dX4_madeOf_20
    · have he := ifn he c1001
      refine lv_iload_n hx hb dX4_madeOf_4 rfl (lv_at hl 1 rfl) ?_
      refine lv_bipush (v := 20) hx hb dX4_madeOf_5 (by decide) ?_
      refine lv_icmp_ge (tgt := 19) hx hb dX4_madeOf_7 (by decide) (fun c1002 => ?_) (fun c1002 => ?_)
      · have he := ifp he c1002
        refine lv_iconst (v := 0) hx hb dX4_madeOf_19 (by decide) ?_
        obtain rfl := some1 he
        exact cRi hx hb hr hlk hK rfl hP hD hS dX4_madeOf_20
      · have he := ifn he c1002
        refine lv_aload_n hx hb dX4_madeOf_10 rfl (lv_at hl 0 rfl) ?_
        refine va_get (D := D) (ci := 4) (v := .ref (a 2)) (C := RX4) (T := TX4) (N := 11) hx hb hts iX4 hown hK hP 0 rfl rfl 1 (by decide) w1 (fun _ h9 => h9) rfl dX4_madeOf_11 ?_
        refine lv_iload_n hx hb dX4_madeOf_14 rfl (lv_at hl 1 rfl) ?_
        obtain ⟨h1003, he⟩ := grd_i he
        refine va_iald hx hb hK hP 2 0 rfl rfl (ix_in h1003) dX4_madeOf_15 ?_
        refine lv_goto (tgt := 20) hx hb dX4_madeOf_16 (by decide) ?_
        obtain rfl := some1 he
        exact cRi hx hb hr hlk hK rfl hP hD hS dX4_madeOf_20
  exact key ss.heap [] rfl rfl hP hS
theorem kX4_freeBlock : yX4_freeBlock.cls = RX4 ∧ yX4_freeBlock.cls ≠ "java/lang/invoke/MethodHandle" ∧ yX4_freeBlock.cls ≠ "java/lang/invoke/VarHandle" ∧ (parseMethodDescriptor yX4_freeBlock.desc).map (fun d => d.parameters.length) = some 1 := by decide +kernel
set_option maxRecDepth 100000 in
set_option maxHeartbeats 4000000 in
theorem mX4_freeBlock (l : Launch) (D : va_G) (k : Nat → ClassId) (a : Nat → Nat) {P_0 : Nat → Nat → Int32} {p1 : Int32} {P' : Nat → Nat → Int32} (he : xX4_freeBlock P_0 p1 = some P') : CtV l D k yX4_freeBlock wsX4_freeBlock ({ frames := 0, cells := 0, slots := 0, locals := 0 } : Room) [.ref (a 0), .int p1] (wPool k a P_0) (wPool k a P') := by
  intro sz9
  refine cSt (lv := [(0, .ref (a 0)), (1, .int p1)]) (own := RX4) (cc := cX4_freeBlock) (nL := 2) (ret := none) (by decide +kernel) rfl rfl (Nat.le_of_ble_eq_true rfl) rfl ?_
  intro pp ee ss mm bl me co hsz hC0 hP hD hS ls hl
  subst hsz
  obtain ⟨hx, hb, hr, hml, hown, hts, hK, hlk⟩ := hC0
  have hA : ∀ q, ss.heap.size ≤ q → va_A (wPool k a P_0) ss.heap.size q := fun q h => Or.inr h
  have iX4 : ∀ w ∈ wsX40, w ∈ wsX4_freeBlock := fun _ h => List.mem_cons_of_mem _ (List.mem_append_right _ h)
  have w1 := hts (.fieldLink RX4 33 "DeadListPool$Pool" "size" "[I") (List.mem_of_getElem? (i := 1) rfl)
  have w2 := hts (.fieldLink RX4 36 "DeadListPool$Pool" "birth" "[I") (List.mem_of_getElem? (i := 2) rfl)
  have w3 := hts (.fieldLink RX4 43 "DeadListPool$Pool" "freed" "I") (List.mem_of_getElem? (i := 3) rfl)
  have hS0 := hS
  have key : ∀ (H : Heap) (locs : List Loc), H = ss.heap → locs = [] → va_P D vwCl (wPool k a P_0) H → va_S (va_A (wPool k a P_0) ss.heap.size) ss.heap H locs → W pp l ee ({ frames := 0, cells := 0, slots := 0, locals := 0 } : Room) ss mm ([.ref (a 0), .int p1] : List Value).toArray bl me co H locs 0 0 (MQ bl (cQv D k (wPool k a P_0) ss.heap.size (wPool k a P')) ([.ref (a 0), .int p1] : List Value).toArray ss 0 0 (va_A (wPool k a P_0) ss.heap.size)) (F0 mm 0 ls []) := by
    intro H locs _ _ hP hS
    refine lv_iload_n hx hb dX4_freeBlock_0 rfl (lv_at hl 1 rfl) ?_
    refine lv_if_lt (tgt := 34) hx hb dX4_freeBlock_1 (by decide) (fun c1001 => ?_) (fun c1001 => ?_)
    · have he := ifp he c1001
      obtain rfl := some1 he
      exact cRv hx hb hr hlk hK hP hD hS dX4_freeBlock_34
    · have he := ifn he c1001
      refine lv_iload_n hx hb dX4_freeBlock_4 rfl (lv_at hl 1 rfl) ?_
      refine lv_bipush (v := 96) hx hb dX4_freeBlock_5 (by decide) ?_
      refine lv_icmp_ge (tgt := 34) hx hb dX4_freeBlock_7 (by decide) (fun c1002 => ?_) (fun c1002 => ?_)
      · have he := ifp he c1002
        obtain rfl := some1 he
        exact cRv hx hb hr hlk hK hP hD hS dX4_freeBlock_34
      · have he := ifn he c1002
        refine lv_aload_n hx hb dX4_freeBlock_10 rfl (lv_at hl 0 rfl) ?_
        refine va_get (D := D) (ci := 4) (v := .ref (a 8)) (C := RX4) (T := TX4) (N := 11) hx hb hts iX4 hown hK hP 0 rfl rfl 7 (by decide) w1 (fun _ h9 => h9) rfl dX4_freeBlock_11 ?_
        refine lv_iload_n hx hb dX4_freeBlock_14 rfl (lv_at hl 1 rfl) ?_
        refine lv_iconst (v := 0) hx hb dX4_freeBlock_15 (by decide) ?_
        obtain ⟨h1003, he⟩ := grd_i he
        obtain ⟨P1004, e1005, he⟩ := lt_i he
        refine va_iast hx hb hK hP hD hS 8 0 rfl rfl (ix_in h1003) dX4_freeBlock_16 (fun H locs hP hD hS => ?_)
        have hP : va_P D vwCl (wPool k a P1004) H := by rw [e1005]; exact hP
        have hD : va_D _ (wPool k a P1004) := va_D_adr (by rw [e1005]; rfl) hD
        refine lv_aload_n hx hb dX4_freeBlock_17 rfl (lv_at hl 0 rfl) ?_
        refine va_get (D := D) (ci := 4) (v := .ref (a 9)) (C := RX4) (T := TX4) (N := 11) hx hb hts iX4 hown hK hP 0 rfl rfl 8 (by decide) w2 (fun _ h9 => h9) rfl dX4_freeBlock_18 ?_
        refine lv_iload_n hx hb dX4_freeBlock_21 rfl (lv_at hl 1 rfl) ?_
        refine lv_iconst (v := 0) hx hb dX4_freeBlock_22 (by decide) ?_
        obtain ⟨h1006, he⟩ := grd_i he
        obtain ⟨P1007, e1008, he⟩ := lt_i he
        refine va_iast hx hb hK hP hD hS 9 0 rfl rfl (ix_in h1006) dX4_freeBlock_23 (fun H locs hP hD hS => ?_)
        have hP : va_P D vwCl (wPool k a P1007) H := by rw [e1008]; exact hP
        have hD : va_D _ (wPool k a P1007) := va_D_adr (by rw [e1008]; rfl) hD
        refine lv_aload_n hx hb dX4_freeBlock_24 rfl (lv_at hl 0 rfl) ?_
        refine lv_dup hx hb dX4_freeBlock_25 rfl ?_
        refine va_get (D := D) (ci := 4) (v := .int (P1007 10 0)) (C := RX4) (T := TX4) (N := 11) hx hb hts iX4 hown hK hP 0 rfl rfl 10 (by decide) w3 (fun _ h9 => h9) rfl dX4_freeBlock_26 ?_
        refine lv_iconst (v := 1) hx hb dX4_freeBlock_29 (by decide) ?_
        refine lv_iadd hx hb dX4_freeBlock_30 ?_
        obtain ⟨P1009, e1010, he⟩ := lt_i he
        refine va_put (D := D) (ci := 4) (v := .int ((P1007 10 0) + 1)) (ty := .int) (C := RX4) (T := TX4) (N := 11) hx hb hts iX4 tyX4 tyX4_ok nmX4 hown hK hP hD hS 0 rfl rfl 10 (by decide) w3 (fun _ h9 => h9) rfl (by decide +kernel) rfl rfl (Nat.le_of_ble_eq_true rfl) dX4_freeBlock_31 (fun H locs hP hD hS => ?_)
        have hP : va_P D vwCl (wPool k a P1009) H := by rw [e1010]; exact hP
        have hD : va_D _ (wPool k a P1009) := va_D_adr (by rw [e1010]; rfl) hD
        obtain rfl := some1 he
        exact cRv hx hb hr hlk hK hP hD hS dX4_freeBlock_34
  exact key ss.heap [] rfl rfl hP hS
theorem kX4_copySlots : yX4_copySlots.cls = RX4 ∧ yX4_copySlots.cls ≠ "java/lang/invoke/MethodHandle" ∧ yX4_copySlots.cls ≠ "java/lang/invoke/VarHandle" ∧ (parseMethodDescriptor yX4_copySlots.desc).map (fun d => d.parameters.length) = some 2 := by decide +kernel
set_option maxRecDepth 100000 in
set_option maxHeartbeats 4000000 in
theorem mX4_copySlots (l : Launch) (D : va_G) (k : Nat → ClassId) (a : Nat → Nat) {P_0 : Nat → Nat → Int32} {p1 : Int32} {p2 : Int32} {P' : Nat → Nat → Int32} (he : xX4_copySlots P_0 p1 p2 = some P') : CtV l D k yX4_copySlots wsX4_copySlots ({ frames := 1, cells := 0, slots := 0, locals := 23 } : Room) [.ref (a 0), .int p1, .int p2] (wPool k a P_0) (wPool k a P') := by
  intro sz9
  refine cSt (lv := [(0, .ref (a 0)), (1, .int p1), (2, .int p2)]) (own := RX4) (cc := cX4_copySlots) (nL := 4) (ret := none) (by decide +kernel) rfl rfl (Nat.le_of_ble_eq_true rfl) rfl ?_
  intro pp ee ss mm bl me co hsz hC0 hP hD hS ls hl
  subst hsz
  obtain ⟨hx, hb, hr, hml, hown, hts, hK, hlk⟩ := hC0
  have hA : ∀ q, ss.heap.size ≤ q → va_A (wPool k a P_0) ss.heap.size q := fun q h => Or.inr h
  have B2 : ∀ (n2 : Nat) (x1 : Int32) (x2 : Int32) (x3 : Int32) (P : Nat → Nat → Int32), xX4_copySlots_2 n2 x1 x2 x3 P = some P' → ∀ (H : Heap) (locs : List Loc), va_P D vwCl (wPool k a P) H → va_D (va_A (wPool k a P_0) ss.heap.size) (wPool k a P) → va_S (va_A (wPool k a P_0) ss.heap.size) ss.heap H locs → ∀ ls : Array Slot, lv_has ls 4 [(0, .ref (a 0)), (1, .int x1), (2, .int x2), (3, .int x3)] → W pp l ee ({ frames := 1, cells := 0, slots := 0, locals := 23 } : Room) ss mm ([.ref (a 0), .int p1, .int p2] : List Value).toArray bl me co H locs 0 0 (MQ bl (cQv D k (wPool k a P_0) ss.heap.size (wPool k a P')) ([.ref (a 0), .int p1, .int p2] : List Value).toArray ss 0 0 (va_A (wPool k a P_0) ss.heap.size)) (F0 mm 2 ls []) := by
    intro n2
    induction n2 with
    | zero =>
      intro x1 x2 x3 P he
      exact absurd (show (none : Option ((Nat → Nat → Int32))) = some P' from he) (by simp)
    | succ n2 ih2 =>
      intro x1 x2 x3 P he H locs hP hD hS ls hl
      refine lv_iload_n hx hb dX4_copySlots_2 rfl (lv_at hl 3 rfl) ?_
      refine lv_bipush (v := 12) hx hb dX4_copySlots_3 (by decide) ?_
      refine lv_icmp_ge (tgt := 26) hx hb dX4_copySlots_5 (by decide) (fun c1 => ?_) (fun c1 => ?_)
      · have he := ifp he c1
        obtain rfl := some1 he
        exact cRv hx hb hr hlk hK hP hD hS dX4_copySlots_26
      · have he := ifn he c1
        refine lv_aload_n hx hb dX4_copySlots_8 rfl (lv_at hl 0 rfl) ?_
        refine lv_iload_n hx hb dX4_copySlots_9 rfl (lv_at hl 2 rfl) ?_
        refine lv_iload_n hx hb dX4_copySlots_10 rfl (lv_at hl 3 rfl) ?_
        refine lv_aload_n hx hb dX4_copySlots_11 rfl (lv_at hl 0 rfl) ?_
        refine lv_iload_n hx hb dX4_copySlots_12 rfl (lv_at hl 1 rfl) ?_
        refine lv_iload_n hx hb dX4_copySlots_13 rfl (lv_at hl 3 rfl) ?_
        obtain ⟨v2, h3, he⟩ := bn1_i he
        refine cVir (As := [.int x1, .int x3]) (rest := [.int x3, .int x2, .ref (a 0)]) ⟨hx, hb, hml, hown, hts⟩ hK hA hP hD hS (mX4_blockIn l D k a (P := P) h3) (cwV 2 hts gX4_copySlots_X4_blockIn rfl rfl rfl kX4_blockIn ⟨Nat.le_of_ble_eq_true rfl, Nat.le_of_ble_eq_true rfl⟩) [0, 1, 2, 3, 4, 5, 6, 7, 8, 9] rfl rfl 0 rfl rfl rfl hl.1 rfl (Nat.le_of_ble_eq_true rfl) ⟨Nat.le_refl 0, Nat.le_refl 0⟩ dX4_copySlots_14 (fun H locs hP hD hS => ?_)
        obtain ⟨P4, h5, he⟩ := bn1_i he
        refine cVv (wf := (wPool k a P4)) (As := [.int x2, .int x3, .int v2]) (rest := []) ⟨hx, hb, hml, hown, hts⟩ hK hA hP hD hS (mX4_setSlot l D k a (P_0 := P) h5) (cwV 3 hts gX4_copySlots_X4_setSlot rfl rfl rfl kX4_setSlot ⟨Nat.le_of_ble_eq_true rfl, Nat.le_of_ble_eq_true rfl⟩) [0, 1, 2, 3, 4, 5, 6, 7, 8, 9] rfl rfl rfl [false, false, false, false, false, false, false, false, false, false] trivial 10 rfl (by decide +kernel) rfl 0 rfl rfl rfl hl.1 rfl (Nat.le_of_ble_eq_true rfl) ⟨Nat.le_refl 0, Nat.le_refl 0⟩ dX4_copySlots_17 (fun H locs hP hD hS => ?_)
        refine lv_iinc (v := (x3 + 1)) (lv' := [(3, .int (x3 + 1)), (0, .ref (a 0)), (1, .int x1), (2, .int x2)]) hx hb dX4_copySlots_20 hl (k := 3) rfl rfl (by decide) rfl (fun ls hl => ?_)
        refine lv_goto (tgt := 2) hx hb dX4_copySlots_23 (by decide) ?_
        exact ih2 x1 x2 (x3 + 1) P4 he H locs hP hD hS ls (lv_sub hl [1, 2, 3, 0] rfl)
  have hS0 := hS
  have key : ∀ (H : Heap) (locs : List Loc), H = ss.heap → locs = [] → va_P D vwCl (wPool k a P_0) H → va_S (va_A (wPool k a P_0) ss.heap.size) ss.heap H locs → W pp l ee ({ frames := 1, cells := 0, slots := 0, locals := 23 } : Room) ss mm ([.ref (a 0), .int p1, .int p2] : List Value).toArray bl me co H locs 0 0 (MQ bl (cQv D k (wPool k a P_0) ss.heap.size (wPool k a P')) ([.ref (a 0), .int p1, .int p2] : List Value).toArray ss 0 0 (va_A (wPool k a P_0) ss.heap.size)) (F0 mm 0 ls []) := by
    intro H locs _ _ hP hS
    refine lv_iconst (v := 0) hx hb dX4_copySlots_0 (by decide) ?_
    refine lv_istore_n (lv' := [(3, .int 0), (0, .ref (a 0)), (1, .int p1), (2, .int p2)]) hx hb dX4_copySlots_1 rfl hl (by decide) rfl (fun ls hl => ?_)
    exact B2 600 p1 p2 0 P_0 he H locs hP hD hS ls (lv_sub hl [1, 2, 3, 0] rfl)
  exact key ss.heap [] rfl rfl hP hS
theorem kX4_setPrev : yX4_setPrev.cls = RX4 ∧ yX4_setPrev.cls ≠ "java/lang/invoke/MethodHandle" ∧ yX4_setPrev.cls ≠ "java/lang/invoke/VarHandle" ∧ (parseMethodDescriptor yX4_setPrev.desc).map (fun d => d.parameters.length) = some 2 := by decide +kernel
set_option maxRecDepth 100000 in
set_option maxHeartbeats 4000000 in
theorem mX4_setPrev (l : Launch) (D : va_G) (k : Nat → ClassId) (a : Nat → Nat) {P_0 : Nat → Nat → Int32} {p1 : Int32} {p2 : Int32} {P' : Nat → Nat → Int32} (he : xX4_setPrev P_0 p1 p2 = some P') : CtV l D k yX4_setPrev wsX4_setPrev ({ frames := 0, cells := 0, slots := 0, locals := 0 } : Room) [.ref (a 0), .int p1, .int p2] (wPool k a P_0) (wPool k a P') := by
  intro sz9
  refine cSt (lv := [(0, .ref (a 0)), (1, .int p1), (2, .int p2)]) (own := RX4) (cc := cX4_setPrev) (nL := 3) (ret := none) (by decide +kernel) rfl rfl (Nat.le_of_ble_eq_true rfl) rfl ?_
  intro pp ee ss mm bl me co hsz hC0 hP hD hS ls hl
  subst hsz
  obtain ⟨hx, hb, hr, hml, hown, hts, hK, hlk⟩ := hC0
  have hA : ∀ q, ss.heap.size ≤ q → va_A (wPool k a P_0) ss.heap.size q := fun q h => Or.inr h
  have iX4 : ∀ w ∈ wsX40, w ∈ wsX4_setPrev := fun _ h => List.mem_cons_of_mem _ (List.mem_append_right _ h)
  have w1 := hts (.fieldLink RX4 18 "DeadListPool$Pool" "prev" "[I") (List.mem_of_getElem? (i := 1) rfl)
  have hS0 := hS
  have key : ∀ (H : Heap) (locs : List Loc), H = ss.heap → locs = [] → va_P D vwCl (wPool k a P_0) H → va_S (va_A (wPool k a P_0) ss.heap.size) ss.heap H locs → W pp l ee ({ frames := 0, cells := 0, slots := 0, locals := 0 } : Room) ss mm ([.ref (a 0), .int p1, .int p2] : List Value).toArray bl me co H locs 0 0 (MQ bl (cQv D k (wPool k a P_0) ss.heap.size (wPool k a P')) ([.ref (a 0), .int p1, .int p2] : List Value).toArray ss 0 0 (va_A (wPool k a P_0) ss.heap.size)) (F0 mm 0 ls []) := by
    intro H locs _ _ hP hS
    refine lv_iload_n hx hb dX4_setPrev_0 rfl (lv_at hl 1 rfl) ?_
    refine lv_if_lt (tgt := 17) hx hb dX4_setPrev_1 (by decide) (fun c1001 => ?_) (fun c1001 => ?_)
    · have he := ifp he c1001
      obtain rfl := some1 he
      exact cRv hx hb hr hlk hK hP hD hS dX4_setPrev_17
    · have he := ifn he c1001
      refine lv_iload_n hx hb dX4_setPrev_4 rfl (lv_at hl 1 rfl) ?_
      refine lv_bipush (v := 20) hx hb dX4_setPrev_5 (by decide) ?_
      refine lv_icmp_ge (tgt := 17) hx hb dX4_setPrev_7 (by decide) (fun c1002 => ?_) (fun c1002 => ?_)
      · have he := ifp he c1002
        obtain rfl := some1 he
        exact cRv hx hb hr hlk hK hP hD hS dX4_setPrev_17
      · have he := ifn he c1002
        refine lv_aload_n hx hb dX4_setPrev_10 rfl (lv_at hl 0 rfl) ?_
        refine va_get (D := D) (ci := 4) (v := .ref (a 3)) (C := RX4) (T := TX4) (N := 11) hx hb hts iX4 hown hK hP 0 rfl rfl 2 (by decide) w1 (fun _ h9 => h9) rfl dX4_setPrev_11 ?_
        refine lv_iload_n hx hb dX4_setPrev_14 rfl (lv_at hl 1 rfl) ?_
        refine lv_iload_n hx hb dX4_setPrev_15 rfl (lv_at hl 2 rfl) ?_
        obtain ⟨h1003, he⟩ := grd_i he
        obtain ⟨P1004, e1005, he⟩ := lt_i he
        refine va_iast hx hb hK hP hD hS 3 0 rfl rfl (ix_in h1003) dX4_setPrev_16 (fun H locs hP hD hS => ?_)
        have hP : va_P D vwCl (wPool k a P1004) H := by rw [e1005]; exact hP
        have hD : va_D _ (wPool k a P1004) := va_D_adr (by rw [e1005]; rfl) hD
        obtain rfl := some1 he
        exact cRv hx hb hr hlk hK hP hD hS dX4_setPrev_17
  exact key ss.heap [] rfl rfl hP hS
theorem kX4_setOwner : yX4_setOwner.cls = RX4 ∧ yX4_setOwner.cls ≠ "java/lang/invoke/MethodHandle" ∧ yX4_setOwner.cls ≠ "java/lang/invoke/VarHandle" ∧ (parseMethodDescriptor yX4_setOwner.desc).map (fun d => d.parameters.length) = some 2 := by decide +kernel
set_option maxRecDepth 100000 in
set_option maxHeartbeats 4000000 in
theorem mX4_setOwner (l : Launch) (D : va_G) (k : Nat → ClassId) (a : Nat → Nat) {P_0 : Nat → Nat → Int32} {p1 : Int32} {p2 : Int32} {P' : Nat → Nat → Int32} (he : xX4_setOwner P_0 p1 p2 = some P') : CtV l D k yX4_setOwner wsX4_setOwner ({ frames := 0, cells := 0, slots := 0, locals := 0 } : Room) [.ref (a 0), .int p1, .int p2] (wPool k a P_0) (wPool k a P') := by
  intro sz9
  refine cSt (lv := [(0, .ref (a 0)), (1, .int p1), (2, .int p2)]) (own := RX4) (cc := cX4_setOwner) (nL := 3) (ret := none) (by decide +kernel) rfl rfl (Nat.le_of_ble_eq_true rfl) rfl ?_
  intro pp ee ss mm bl me co hsz hC0 hP hD hS ls hl
  subst hsz
  obtain ⟨hx, hb, hr, hml, hown, hts, hK, hlk⟩ := hC0
  have hA : ∀ q, ss.heap.size ≤ q → va_A (wPool k a P_0) ss.heap.size q := fun q h => Or.inr h
  have iX4 : ∀ w ∈ wsX40, w ∈ wsX4_setOwner := fun _ h => List.mem_cons_of_mem _ (List.mem_append_right _ h)
  have w1 := hts (.fieldLink RX4 21 "DeadListPool$Pool" "owner" "[I") (List.mem_of_getElem? (i := 1) rfl)
  have hS0 := hS
  have key : ∀ (H : Heap) (locs : List Loc), H = ss.heap → locs = [] → va_P D vwCl (wPool k a P_0) H → va_S (va_A (wPool k a P_0) ss.heap.size) ss.heap H locs → W pp l ee ({ frames := 0, cells := 0, slots := 0, locals := 0 } : Room) ss mm ([.ref (a 0), .int p1, .int p2] : List Value).toArray bl me co H locs 0 0 (MQ bl (cQv D k (wPool k a P_0) ss.heap.size (wPool k a P')) ([.ref (a 0), .int p1, .int p2] : List Value).toArray ss 0 0 (va_A (wPool k a P_0) ss.heap.size)) (F0 mm 0 ls []) := by
    intro H locs _ _ hP hS
    refine lv_iload_n hx hb dX4_setOwner_0 rfl (lv_at hl 1 rfl) ?_
    refine lv_if_lt (tgt := 17) hx hb dX4_setOwner_1 (by decide) (fun c1001 => ?_) (fun c1001 => ?_)
    · have he := ifp he c1001
      obtain rfl := some1 he
      exact cRv hx hb hr hlk hK hP hD hS dX4_setOwner_17
    · have he := ifn he c1001
      refine lv_iload_n hx hb dX4_setOwner_4 rfl (lv_at hl 1 rfl) ?_
      refine lv_bipush (v := 20) hx hb dX4_setOwner_5 (by decide) ?_
      refine lv_icmp_ge (tgt := 17) hx hb dX4_setOwner_7 (by decide) (fun c1002 => ?_) (fun c1002 => ?_)
      · have he := ifp he c1002
        obtain rfl := some1 he
        exact cRv hx hb hr hlk hK hP hD hS dX4_setOwner_17
      · have he := ifn he c1002
        refine lv_aload_n hx hb dX4_setOwner_10 rfl (lv_at hl 0 rfl) ?_
        refine va_get (D := D) (ci := 4) (v := .ref (a 4)) (C := RX4) (T := TX4) (N := 11) hx hb hts iX4 hown hK hP 0 rfl rfl 3 (by decide) w1 (fun _ h9 => h9) rfl dX4_setOwner_11 ?_
        refine lv_iload_n hx hb dX4_setOwner_14 rfl (lv_at hl 1 rfl) ?_
        refine lv_iload_n hx hb dX4_setOwner_15 rfl (lv_at hl 2 rfl) ?_
        obtain ⟨h1003, he⟩ := grd_i he
        obtain ⟨P1004, e1005, he⟩ := lt_i he
        refine va_iast hx hb hK hP hD hS 4 0 rfl rfl (ix_in h1003) dX4_setOwner_16 (fun H locs hP hD hS => ?_)
        have hP : va_P D vwCl (wPool k a P1004) H := by rw [e1005]; exact hP
        have hD : va_D _ (wPool k a P1004) := va_D_adr (by rw [e1005]; rfl) hD
        obtain rfl := some1 he
        exact cRv hx hb hr hlk hK hP hD hS dX4_setOwner_17
  exact key ss.heap [] rfl rfl hP hS
theorem kX4_setTags : yX4_setTags.cls = RX4 ∧ yX4_setTags.cls ≠ "java/lang/invoke/MethodHandle" ∧ yX4_setTags.cls ≠ "java/lang/invoke/VarHandle" ∧ (parseMethodDescriptor yX4_setTags.desc).map (fun d => d.parameters.length) = some 2 := by decide +kernel
set_option maxRecDepth 100000 in
set_option maxHeartbeats 4000000 in
theorem mX4_setTags (l : Launch) (D : va_G) (k : Nat → ClassId) (a : Nat → Nat) {P_0 : Nat → Nat → Int32} {p1 : Int32} {p2 : Int32} {P' : Nat → Nat → Int32} (he : xX4_setTags P_0 p1 p2 = some P') : CtV l D k yX4_setTags wsX4_setTags ({ frames := 0, cells := 0, slots := 0, locals := 0 } : Room) [.ref (a 0), .int p1, .int p2] (wPool k a P_0) (wPool k a P') := by
  intro sz9
  refine cSt (lv := [(0, .ref (a 0)), (1, .int p1), (2, .int p2)]) (own := RX4) (cc := cX4_setTags) (nL := 3) (ret := none) (by decide +kernel) rfl rfl (Nat.le_of_ble_eq_true rfl) rfl ?_
  intro pp ee ss mm bl me co hsz hC0 hP hD hS ls hl
  subst hsz
  obtain ⟨hx, hb, hr, hml, hown, hts, hK, hlk⟩ := hC0
  have hA : ∀ q, ss.heap.size ≤ q → va_A (wPool k a P_0) ss.heap.size q := fun q h => Or.inr h
  have iX4 : ∀ w ∈ wsX40, w ∈ wsX4_setTags := fun _ h => List.mem_cons_of_mem _ (List.mem_append_right _ h)
  have w1 := hts (.fieldLink RX4 24 "DeadListPool$Pool" "tags" "[I") (List.mem_of_getElem? (i := 1) rfl)
  have hS0 := hS
  have key : ∀ (H : Heap) (locs : List Loc), H = ss.heap → locs = [] → va_P D vwCl (wPool k a P_0) H → va_S (va_A (wPool k a P_0) ss.heap.size) ss.heap H locs → W pp l ee ({ frames := 0, cells := 0, slots := 0, locals := 0 } : Room) ss mm ([.ref (a 0), .int p1, .int p2] : List Value).toArray bl me co H locs 0 0 (MQ bl (cQv D k (wPool k a P_0) ss.heap.size (wPool k a P')) ([.ref (a 0), .int p1, .int p2] : List Value).toArray ss 0 0 (va_A (wPool k a P_0) ss.heap.size)) (F0 mm 0 ls []) := by
    intro H locs _ _ hP hS
    refine lv_iload_n hx hb dX4_setTags_0 rfl (lv_at hl 1 rfl) ?_
    refine lv_if_lt (tgt := 17) hx hb dX4_setTags_1 (by decide) (fun c1001 => ?_) (fun c1001 => ?_)
    · have he := ifp he c1001
      obtain rfl := some1 he
      exact cRv hx hb hr hlk hK hP hD hS dX4_setTags_17
    · have he := ifn he c1001
      refine lv_iload_n hx hb dX4_setTags_4 rfl (lv_at hl 1 rfl) ?_
      refine lv_bipush (v := 20) hx hb dX4_setTags_5 (by decide) ?_
      refine lv_icmp_ge (tgt := 17) hx hb dX4_setTags_7 (by decide) (fun c1002 => ?_) (fun c1002 => ?_)
      · have he := ifp he c1002
        obtain rfl := some1 he
        exact cRv hx hb hr hlk hK hP hD hS dX4_setTags_17
      · have he := ifn he c1002
        refine lv_aload_n hx hb dX4_setTags_10 rfl (lv_at hl 0 rfl) ?_
        refine va_get (D := D) (ci := 4) (v := .ref (a 5)) (C := RX4) (T := TX4) (N := 11) hx hb hts iX4 hown hK hP 0 rfl rfl 4 (by decide) w1 (fun _ h9 => h9) rfl dX4_setTags_11 ?_
        refine lv_iload_n hx hb dX4_setTags_14 rfl (lv_at hl 1 rfl) ?_
        refine lv_iload_n hx hb dX4_setTags_15 rfl (lv_at hl 2 rfl) ?_
        obtain ⟨h1003, he⟩ := grd_i he
        obtain ⟨P1004, e1005, he⟩ := lt_i he
        refine va_iast hx hb hK hP hD hS 5 0 rfl rfl (ix_in h1003) dX4_setTags_16 (fun H locs hP hD hS => ?_)
        have hP : va_P D vwCl (wPool k a P1004) H := by rw [e1005]; exact hP
        have hD : va_D _ (wPool k a P1004) := va_D_adr (by rw [e1005]; rfl) hD
        obtain rfl := some1 he
        exact cRv hx hb hr hlk hK hP hD hS dX4_setTags_17
  exact key ss.heap [] rfl rfl hP hS
theorem kX4_setTime : yX4_setTime.cls = RX4 ∧ yX4_setTime.cls ≠ "java/lang/invoke/MethodHandle" ∧ yX4_setTime.cls ≠ "java/lang/invoke/VarHandle" ∧ (parseMethodDescriptor yX4_setTime.desc).map (fun d => d.parameters.length) = some 1 := by decide +kernel
set_option maxRecDepth 100000 in
set_option maxHeartbeats 4000000 in
theorem mX4_setTime (l : Launch) (D : va_G) (k : Nat → ClassId) (a : Nat → Nat) {P_0 : Nat → Nat → Int32} {p1 : Int32} {P' : Nat → Nat → Int32} (he : xX4_setTime P_0 p1 = some P') : CtV l D k yX4_setTime wsX4_setTime ({ frames := 0, cells := 0, slots := 0, locals := 0 } : Room) [.ref (a 0), .int p1] (wPool k a P_0) (wPool k a P') := by
  intro sz9
  refine cSt (lv := [(0, .ref (a 0)), (1, .int p1)]) (own := RX4) (cc := cX4_setTime) (nL := 2) (ret := none) (by decide +kernel) rfl rfl (Nat.le_of_ble_eq_true rfl) rfl ?_
  intro pp ee ss mm bl me co hsz hC0 hP hD hS ls hl
  subst hsz
  obtain ⟨hx, hb, hr, hml, hown, hts, hK, hlk⟩ := hC0
  have hA : ∀ q, ss.heap.size ≤ q → va_A (wPool k a P_0) ss.heap.size q := fun q h => Or.inr h
  have iX4 : ∀ w ∈ wsX40, w ∈ wsX4_setTime := fun _ h => List.mem_cons_of_mem _ (List.mem_append_right _ h)
  have w1 := hts (.fieldLink RX4 39 "DeadListPool$Pool" "time" "I") (List.mem_of_getElem? (i := 1) rfl)
  have hS0 := hS
  have key : ∀ (H : Heap) (locs : List Loc), H = ss.heap → locs = [] → va_P D vwCl (wPool k a P_0) H → va_S (va_A (wPool k a P_0) ss.heap.size) ss.heap H locs → W pp l ee ({ frames := 0, cells := 0, slots := 0, locals := 0 } : Room) ss mm ([.ref (a 0), .int p1] : List Value).toArray bl me co H locs 0 0 (MQ bl (cQv D k (wPool k a P_0) ss.heap.size (wPool k a P')) ([.ref (a 0), .int p1] : List Value).toArray ss 0 0 (va_A (wPool k a P_0) ss.heap.size)) (F0 mm 0 ls []) := by
    intro H locs _ _ hP hS
    refine lv_aload_n hx hb dX4_setTime_0 rfl (lv_at hl 0 rfl) ?_
    refine lv_iload_n hx hb dX4_setTime_1 rfl (lv_at hl 1 rfl) ?_
    obtain ⟨P1001, e1002, he⟩ := lt_i he
    refine va_put (D := D) (ci := 4) (v := .int p1) (ty := .int) (C := RX4) (T := TX4) (N := 11) hx hb hts iX4 tyX4 tyX4_ok nmX4 hown hK hP hD hS 0 rfl rfl 9 (by decide) w1 (fun _ h9 => h9) rfl (by decide +kernel) rfl rfl (Nat.le_of_ble_eq_true rfl) dX4_setTime_2 (fun H locs hP hD hS => ?_)
    have hP : va_P D vwCl (wPool k a P1001) H := by rw [e1002]; exact hP
    have hD : va_D _ (wPool k a P1001) := va_D_adr (by rw [e1002]; rfl) hD
    obtain rfl := some1 he
    exact cRv hx hb hr hlk hK hP hD hS dX4_setTime_5
  exact key ss.heap [] rfl rfl hP hS
theorem kX4_tagsOf : yX4_tagsOf.cls = RX4 ∧ yX4_tagsOf.cls ≠ "java/lang/invoke/MethodHandle" ∧ yX4_tagsOf.cls ≠ "java/lang/invoke/VarHandle" ∧ (parseMethodDescriptor yX4_tagsOf.desc).map (fun d => d.parameters.length) = some 1 := by decide +kernel
set_option maxRecDepth 100000 in
set_option maxHeartbeats 4000000 in
theorem mX4_tagsOf (l : Launch) (D : va_G) (k : Nat → ClassId) (a : Nat → Nat) {P : Nat → Nat → Int32} {p1 : Int32} {r : Int32}  (he : xX4_tagsOf P p1 = some r) : CtI l D k yX4_tagsOf wsX4_tagsOf ({ frames := 0, cells := 0, slots := 0, locals := 0 } : Room) [.ref (a 0), .int p1] (wPool k a P) r (wPool k a P) := by
  intro sz9
  refine cSt (lv := [(0, .ref (a 0)), (1, .int p1)]) (own := RX4) (cc := cX4_tagsOf) (nL := 2) (ret := (some .int)) (by decide +kernel) rfl rfl (Nat.le_of_ble_eq_true rfl) rfl ?_
  intro pp ee ss mm bl me co hsz hC0 hP hD hS ls hl
  subst hsz
  obtain ⟨hx, hb, hr, hml, hown, hts, hK, hlk⟩ := hC0
  have hA : ∀ q, ss.heap.size ≤ q → va_A (wPool k a P) ss.heap.size q := fun q h => Or.inr h
  have iX4 : ∀ w ∈ wsX40, w ∈ wsX4_tagsOf := fun _ h => List.mem_cons_of_mem _ (List.mem_append_right _ h)
  have w1 := hts (.fieldLink RX4 24 "DeadListPool$Pool" "tags" "[I") (List.mem_of_getElem? (i := 1) rfl)
  have hS0 := hS
  have key : ∀ (H : Heap) (locs : List Loc), H = ss.heap → locs = [] → va_P D vwCl (wPool k a P) H → va_S (va_A (wPool k a P) ss.heap.size) ss.heap H locs → W pp l ee ({ frames := 0, cells := 0, slots := 0, locals := 0 } : Room) ss mm ([.ref (a 0), .int p1] : List Value).toArray bl me co H locs 0 0 (MQ bl (cQi D k (wPool k a P) ss.heap.size r (wPool k a P)) ([.ref (a 0), .int p1] : List Value).toArray ss 0 0 (va_A (wPool k a P) ss.heap.size)) (F0 mm 0 ls []) := by
    intro H locs _ _ hP hS
    refine lv_iload_n hx hb dX4_tagsOf_0 rfl (lv_at hl 1 rfl) ?_
    refine lv_if_lt (tgt := 19) hx hb dX4_tagsOf_1 (by decide) (fun c1001 => ?_) (fun c1001 => ?_)
    · have he := ifp he c1001
      refine lv_iconst (v := 0) hx hb dX4_tagsOf_19 (by decide) ?_
      obtain rfl := some1 he
      exact cRi hx hb hr hlk hK rfl hP hD hS dX4_tagsOf_20
    · have he := ifn he c1001
      refine lv_iload_n hx hb dX4_tagsOf_4 rfl (lv_at hl 1 rfl) ?_
      refine lv_bipush (v := 20) hx hb dX4_tagsOf_5 (by decide) ?_
      refine lv_icmp_ge (tgt := 19) hx hb dX4_tagsOf_7 (by decide) (fun c1002 => ?_) (fun c1002 => ?_)
      · have he := ifp he c1002
        refine lv_iconst (v := 0) hx hb dX4_tagsOf_19 (by decide) ?_
        obtain rfl := some1 he
        exact cRi hx hb hr hlk hK rfl hP hD hS dX4_tagsOf_20
      · have he := ifn he c1002
        refine lv_aload_n hx hb dX4_tagsOf_10 rfl (lv_at hl 0 rfl) ?_
        refine va_get (D := D) (ci := 4) (v := .ref (a 5)) (C := RX4) (T := TX4) (N := 11) hx hb hts iX4 hown hK hP 0 rfl rfl 4 (by decide) w1 (fun _ h9 => h9) rfl dX4_tagsOf_11 ?_
        refine lv_iload_n hx hb dX4_tagsOf_14 rfl (lv_at hl 1 rfl) ?_
        obtain ⟨h1003, he⟩ := grd_i he
        refine va_iald hx hb hK hP 5 0 rfl rfl (ix_in h1003) dX4_tagsOf_15 ?_
        refine lv_goto (tgt := 20) hx hb dX4_tagsOf_16 (by decide) ?_
        obtain rfl := some1 he
        exact cRi hx hb hr hlk hK rfl hP hD hS dX4_tagsOf_20
  exact key ss.heap [] rfl rfl hP hS
theorem kX4_isSnapshot : yX4_isSnapshot.cls = RX4 ∧ yX4_isSnapshot.cls ≠ "java/lang/invoke/MethodHandle" ∧ yX4_isSnapshot.cls ≠ "java/lang/invoke/VarHandle" ∧ (parseMethodDescriptor yX4_isSnapshot.desc).map (fun d => d.parameters.length) = some 1 := by decide +kernel
set_option maxRecDepth 100000 in
set_option maxHeartbeats 4000000 in
theorem mX4_isSnapshot (l : Launch) (D : va_G) (k : Nat → ClassId) (a : Nat → Nat) {P : Nat → Nat → Int32} {p1 : Int32} {r : Int32}  (he : xX4_isSnapshot P p1 = some r) : CtI l D k yX4_isSnapshot wsX4_isSnapshot ({ frames := 1, cells := 0, slots := 0, locals := 21 } : Room) [.ref (a 0), .int p1] (wPool k a P) r (wPool k a P) := by
  intro sz9
  refine cSt (lv := [(0, .ref (a 0)), (1, .int p1)]) (own := RX4) (cc := cX4_isSnapshot) (nL := 3) (ret := (some .boolean)) (by decide +kernel) rfl rfl (Nat.le_of_ble_eq_true rfl) rfl ?_
  intro pp ee ss mm bl me co hsz hC0 hP hD hS ls hl
  subst hsz
  obtain ⟨hx, hb, hr, hml, hown, hts, hK, hlk⟩ := hC0
  have hA : ∀ q, ss.heap.size ≤ q → va_A (wPool k a P) ss.heap.size q := fun q h => Or.inr h
  have hS0 := hS
  have key : ∀ (H : Heap) (locs : List Loc), H = ss.heap → locs = [] → va_P D vwCl (wPool k a P) H → va_S (va_A (wPool k a P) ss.heap.size) ss.heap H locs → W pp l ee ({ frames := 1, cells := 0, slots := 0, locals := 21 } : Room) ss mm ([.ref (a 0), .int p1] : List Value).toArray bl me co H locs 0 0 (MQ bl (cQi D k (wPool k a P) ss.heap.size r (wPool k a P)) ([.ref (a 0), .int p1] : List Value).toArray ss 0 0 (va_A (wPool k a P) ss.heap.size)) (F0 mm 0 ls []) := by
    intro H locs _ _ hP hS
    refine lv_aload_n hx hb dX4_isSnapshot_0 rfl (lv_at hl 0 rfl) ?_
    refine lv_iload_n hx hb dX4_isSnapshot_1 rfl (lv_at hl 1 rfl) ?_
    obtain ⟨v1001, h1002, he⟩ := bn1_i he
    refine cVir (As := [.int p1]) (rest := []) ⟨hx, hb, hml, hown, hts⟩ hK hA hP hD hS (mX4_kindOf l D k a (P := P) h1002) (cwV 1 hts gX4_isSnapshot_X4_kindOf rfl rfl rfl kX4_kindOf ⟨Nat.le_of_ble_eq_true rfl, Nat.le_of_ble_eq_true rfl⟩) [0, 1, 2, 3, 4, 5, 6, 7, 8, 9] rfl rfl 0 rfl rfl rfl hl.1 rfl (Nat.le_of_ble_eq_true rfl) ⟨Nat.le_refl 0, Nat.le_refl 0⟩ dX4_isSnapshot_2 (fun H locs hP hD hS => ?_)
    refine lv_istore_n (lv' := [(2, .int v1001), (0, .ref (a 0)), (1, .int p1)]) hx hb dX4_isSnapshot_5 rfl hl (by decide) rfl (fun ls hl => ?_)
    refine lv_iload_n hx hb dX4_isSnapshot_6 rfl (lv_at hl 0 rfl) ?_
    refine lv_iconst (v := 2) hx hb dX4_isSnapshot_7 (by decide) ?_
    refine lv_icmp_eq (tgt := 16) hx hb dX4_isSnapshot_8 (by decide) (fun c1003 => ?_) (fun c1003 => ?_)
    · have he := ifp he c1003
      refine lv_iconst (v := 1) hx hb dX4_isSnapshot_16 (by decide) ?_
      refine lv_goto (tgt := 21) hx hb dX4_isSnapshot_17 (by decide) ?_
      obtain rfl := some1 he
      exact cRi hx hb hr hlk hK rfl hP hD hS dX4_isSnapshot_21
    · have he := ifn he c1003
      refine lv_iload_n hx hb dX4_isSnapshot_11 rfl (lv_at hl 0 rfl) ?_
      refine lv_iconst (v := 3) hx hb dX4_isSnapshot_12 (by decide) ?_
      refine lv_icmp_ne (tgt := 20) hx hb dX4_isSnapshot_13 (by decide) (fun c1004 => ?_) (fun c1004 => ?_)
      · have he := ifn he c1004
        refine lv_iconst (v := 0) hx hb dX4_isSnapshot_20 (by decide) ?_
        obtain rfl := some1 he
        exact cRi hx hb hr hlk hK rfl hP hD hS dX4_isSnapshot_21
      · have he := ifp he c1004
        refine lv_iconst (v := 1) hx hb dX4_isSnapshot_16 (by decide) ?_
        refine lv_goto (tgt := 21) hx hb dX4_isSnapshot_17 (by decide) ?_
        obtain rfl := some1 he
        exact cRi hx hb hr hlk hK rfl hP hD hS dX4_isSnapshot_21
  exact key ss.heap [] rfl rfl hP hS
theorem kX4_nextCount : yX4_nextCount.cls = RX4 ∧ yX4_nextCount.cls ≠ "java/lang/invoke/MethodHandle" ∧ yX4_nextCount.cls ≠ "java/lang/invoke/VarHandle" ∧ (parseMethodDescriptor yX4_nextCount.desc).map (fun d => d.parameters.length) = some 1 := by decide +kernel
set_option maxRecDepth 100000 in
set_option maxHeartbeats 4000000 in
theorem mX4_nextCount (l : Launch) (D : va_G) (k : Nat → ClassId) (a : Nat → Nat) {P : Nat → Nat → Int32} {p1 : Int32} {r : Int32}  (he : xX4_nextCount P p1 = some r) : CtI l D k yX4_nextCount wsX4_nextCount ({ frames := 0, cells := 0, slots := 0, locals := 0 } : Room) [.ref (a 0), .int p1] (wPool k a P) r (wPool k a P) := by
  intro sz9
  refine cSt (lv := [(0, .ref (a 0)), (1, .int p1)]) (own := RX4) (cc := cX4_nextCount) (nL := 4) (ret := (some .int)) (by decide +kernel) rfl rfl (Nat.le_of_ble_eq_true rfl) rfl ?_
  intro pp ee ss mm bl me co hsz hC0 hP hD hS ls hl
  subst hsz
  obtain ⟨hx, hb, hr, hml, hown, hts, hK, hlk⟩ := hC0
  have hA : ∀ q, ss.heap.size ≤ q → va_A (wPool k a P) ss.heap.size q := fun q h => Or.inr h
  have iX4 : ∀ w ∈ wsX40, w ∈ wsX4_nextCount := fun _ h => List.mem_cons_of_mem _ (List.mem_append_right _ h)
  have w1 := hts (.fieldLink RX4 18 "DeadListPool$Pool" "prev" "[I") (List.mem_of_getElem? (i := 1) rfl)
  have B4 : ∀ (n4 : Nat) (x1 : Int32) (x2 : Int32) (x3 : Int32), xX4_nextCount_4 P n4 x1 x2 x3 = some r → ∀ (H : Heap) (locs : List Loc), va_P D vwCl (wPool k a P) H → va_D (va_A (wPool k a P) ss.heap.size) (wPool k a P) → va_S (va_A (wPool k a P) ss.heap.size) ss.heap H locs → ∀ ls : Array Slot, lv_has ls 4 [(0, .ref (a 0)), (1, .int x1), (2, .int x2), (3, .int x3)] → W pp l ee ({ frames := 0, cells := 0, slots := 0, locals := 0 } : Room) ss mm ([.ref (a 0), .int p1] : List Value).toArray bl me co H locs 0 0 (MQ bl (cQi D k (wPool k a P) ss.heap.size r (wPool k a P)) ([.ref (a 0), .int p1] : List Value).toArray ss 0 0 (va_A (wPool k a P) ss.heap.size)) (F0 mm 4 ls []) := by
    intro n4
    induction n4 with
    | zero =>
      intro x1 x2 x3 he
      exact absurd (show (none : Option (Int32)) = some r from he) (by simp)
    | succ n4 ih4 =>
      intro x1 x2 x3 he H locs hP hD hS ls hl
      refine lv_iload_n hx hb dX4_nextCount_4 rfl (lv_at hl 3 rfl) ?_
      refine lv_bipush (v := 20) hx hb dX4_nextCount_5 (by decide) ?_
      refine lv_icmp_ge (tgt := 29) hx hb dX4_nextCount_7 (by decide) (fun c1 => ?_) (fun c1 => ?_)
      · have he := ifp he c1
        refine lv_iload_n hx hb dX4_nextCount_29 rfl (lv_at hl 2 rfl) ?_
        obtain rfl := some1 he
        exact cRi hx hb hr hlk hK rfl hP hD hS dX4_nextCount_30
      · have he := ifn he c1
        refine lv_aload_n hx hb dX4_nextCount_10 rfl (lv_at hl 0 rfl) ?_
        refine va_get (D := D) (ci := 4) (v := .ref (a 3)) (C := RX4) (T := TX4) (N := 11) hx hb hts iX4 hown hK hP 0 rfl rfl 2 (by decide) w1 (fun _ h9 => h9) rfl dX4_nextCount_11 ?_
        refine lv_iload_n hx hb dX4_nextCount_14 rfl (lv_at hl 3 rfl) ?_
        obtain ⟨h2, he⟩ := grd_i he
        refine va_iald hx hb hK hP 3 0 rfl rfl (ix_in h2) dX4_nextCount_15 ?_
        refine lv_iload_n hx hb dX4_nextCount_16 rfl (lv_at hl 1 rfl) ?_
        refine lv_icmp_ne (tgt := 23) hx hb dX4_nextCount_17 (by decide) (fun c3 => ?_) (fun c3 => ?_)
        · have he := ifn he c3
          refine lv_iinc (v := (x3 + 1)) (lv' := [(3, .int (x3 + 1)), (0, .ref (a 0)), (1, .int x1), (2, .int x2)]) hx hb dX4_nextCount_23 hl (k := 3) rfl rfl (by decide) rfl (fun ls hl => ?_)
          refine lv_goto (tgt := 4) hx hb dX4_nextCount_26 (by decide) ?_
          exact ih4 x1 x2 (x3 + 1) he H locs hP hD hS ls (lv_sub hl [1, 2, 3, 0] rfl)
        · have he := ifp he c3
          refine lv_iinc (v := (x2 + 1)) (lv' := [(2, .int (x2 + 1)), (0, .ref (a 0)), (1, .int x1), (3, .int x3)]) hx hb dX4_nextCount_20 hl (k := 2) rfl rfl (by decide) rfl (fun ls hl => ?_)
          refine lv_iinc (v := (x3 + 1)) (lv' := [(3, .int (x3 + 1)), (2, .int (x2 + 1)), (0, .ref (a 0)), (1, .int x1)]) hx hb dX4_nextCount_23 hl (k := 3) rfl rfl (by decide) rfl (fun ls hl => ?_)
          refine lv_goto (tgt := 4) hx hb dX4_nextCount_26 (by decide) ?_
          exact ih4 x1 (x2 + 1) (x3 + 1) he H locs hP hD hS ls (lv_sub hl [2, 3, 1, 0] rfl)
  have hS0 := hS
  have key : ∀ (H : Heap) (locs : List Loc), H = ss.heap → locs = [] → va_P D vwCl (wPool k a P) H → va_S (va_A (wPool k a P) ss.heap.size) ss.heap H locs → W pp l ee ({ frames := 0, cells := 0, slots := 0, locals := 0 } : Room) ss mm ([.ref (a 0), .int p1] : List Value).toArray bl me co H locs 0 0 (MQ bl (cQi D k (wPool k a P) ss.heap.size r (wPool k a P)) ([.ref (a 0), .int p1] : List Value).toArray ss 0 0 (va_A (wPool k a P) ss.heap.size)) (F0 mm 0 ls []) := by
    intro H locs _ _ hP hS
    refine lv_iconst (v := 0) hx hb dX4_nextCount_0 (by decide) ?_
    refine lv_istore_n (lv' := [(2, .int 0), (0, .ref (a 0)), (1, .int p1)]) hx hb dX4_nextCount_1 rfl hl (by decide) rfl (fun ls hl => ?_)
    refine lv_iconst (v := 0) hx hb dX4_nextCount_2 (by decide) ?_
    refine lv_istore_n (lv' := [(3, .int 0), (2, .int 0), (0, .ref (a 0)), (1, .int p1)]) hx hb dX4_nextCount_3 rfl hl (by decide) rfl (fun ls hl => ?_)
    exact B4 600 p1 0 0 he H locs hP hD hS ls (lv_sub hl [2, 3, 1, 0] rfl)
  exact key ss.heap [] rfl rfl hP hS
theorem kX4_isLoose : yX4_isLoose.cls = RX4 ∧ yX4_isLoose.cls ≠ "java/lang/invoke/MethodHandle" ∧ yX4_isLoose.cls ≠ "java/lang/invoke/VarHandle" ∧ (parseMethodDescriptor yX4_isLoose.desc).map (fun d => d.parameters.length) = some 1 := by decide +kernel
set_option maxRecDepth 100000 in
set_option maxHeartbeats 4000000 in
theorem mX4_isLoose (l : Launch) (D : va_G) (k : Nat → ClassId) (a : Nat → Nat) {P : Nat → Nat → Int32} {p1 : Int32} {r : Int32}  (he : xX4_isLoose P p1 = some r) : CtI l D k yX4_isLoose wsX4_isLoose ({ frames := 2, cells := 0, slots := 0, locals := 43 } : Room) [.ref (a 0), .int p1] (wPool k a P) r (wPool k a P) := by
  intro sz9
  refine cSt (lv := [(0, .ref (a 0)), (1, .int p1)]) (own := RX4) (cc := cX4_isLoose) (nL := 2) (ret := (some .boolean)) (by decide +kernel) rfl rfl (Nat.le_of_ble_eq_true rfl) rfl ?_
  intro pp ee ss mm bl me co hsz hC0 hP hD hS ls hl
  subst hsz
  obtain ⟨hx, hb, hr, hml, hown, hts, hK, hlk⟩ := hC0
  have hA : ∀ q, ss.heap.size ≤ q → va_A (wPool k a P) ss.heap.size q := fun q h => Or.inr h
  have hS0 := hS
  have key : ∀ (H : Heap) (locs : List Loc), H = ss.heap → locs = [] → va_P D vwCl (wPool k a P) H → va_S (va_A (wPool k a P) ss.heap.size) ss.heap H locs → W pp l ee ({ frames := 2, cells := 0, slots := 0, locals := 43 } : Room) ss mm ([.ref (a 0), .int p1] : List Value).toArray bl me co H locs 0 0 (MQ bl (cQi D k (wPool k a P) ss.heap.size r (wPool k a P)) ([.ref (a 0), .int p1] : List Value).toArray ss 0 0 (va_A (wPool k a P) ss.heap.size)) (F0 mm 0 ls []) := by
    intro H locs _ _ hP hS
    refine lv_aload_n hx hb dX4_isLoose_0 rfl (lv_at hl 0 rfl) ?_
    refine lv_iload_n hx hb dX4_isLoose_1 rfl (lv_at hl 1 rfl) ?_
    obtain ⟨v1001, h1002, he⟩ := bn1_i he
    refine cVir (As := [.int p1]) (rest := []) ⟨hx, hb, hml, hown, hts⟩ hK hA hP hD hS (mX4_isSnapshot l D k a (P := P) h1002) (cwV 1 hts gX4_isLoose_X4_isSnapshot rfl rfl rfl kX4_isSnapshot ⟨Nat.le_of_ble_eq_true rfl, Nat.le_of_ble_eq_true rfl⟩) [0, 1, 2, 3, 4, 5, 6, 7, 8, 9] rfl rfl 0 rfl rfl rfl hl.1 rfl (Nat.le_of_ble_eq_true rfl) ⟨Nat.le_refl 0, Nat.le_refl 0⟩ dX4_isLoose_2 (fun H locs hP hD hS => ?_)
    refine lv_if_eq (tgt := 29) hx hb dX4_isLoose_5 (by decide) (fun c1003 => ?_) (fun c1003 => ?_)
    · have he := ifp he c1003
      refine lv_iconst (v := 0) hx hb dX4_isLoose_29 (by decide) ?_
      obtain rfl := some1 he
      exact cRi hx hb hr hlk hK rfl hP hD hS dX4_isLoose_30
    · have he := ifn he c1003
      refine lv_aload_n hx hb dX4_isLoose_8 rfl (lv_at hl 0 rfl) ?_
      refine lv_iload_n hx hb dX4_isLoose_9 rfl (lv_at hl 1 rfl) ?_
      obtain ⟨v1004, h1005, he⟩ := bn1_i he
      refine cVir (As := [.int p1]) (rest := []) ⟨hx, hb, hml, hown, hts⟩ hK hA hP hD hS (mX4_tagsOf l D k a (P := P) h1005) (cwV 1 hts gX4_isLoose_X4_tagsOf rfl rfl rfl kX4_tagsOf ⟨Nat.le_of_ble_eq_true rfl, Nat.le_of_ble_eq_true rfl⟩) [0, 1, 2, 3, 4, 5, 6, 7, 8, 9] rfl rfl 0 rfl rfl rfl hl.1 rfl (Nat.le_of_ble_eq_true rfl) ⟨Nat.le_refl 0, Nat.le_refl 0⟩ dX4_isLoose_10 (fun H locs hP hD hS => ?_)
      refine lv_if_ne (tgt := 29) hx hb dX4_isLoose_13 (by decide) (fun c1006 => ?_) (fun c1006 => ?_)
      · have he := ifn he c1006
        refine lv_iconst (v := 0) hx hb dX4_isLoose_29 (by decide) ?_
        obtain rfl := some1 he
        exact cRi hx hb hr hlk hK rfl hP hD hS dX4_isLoose_30
      · have he := ifp he c1006
        refine lv_aload_n hx hb dX4_isLoose_16 rfl (lv_at hl 0 rfl) ?_
        refine lv_iload_n hx hb dX4_isLoose_17 rfl (lv_at hl 1 rfl) ?_
        obtain ⟨v1007, h1008, he⟩ := bn1_i he
        refine cVir (As := [.int p1]) (rest := []) ⟨hx, hb, hml, hown, hts⟩ hK hA hP hD hS (mX4_nextCount l D k a (P := P) h1008) (cwV 1 hts gX4_isLoose_X4_nextCount rfl rfl rfl kX4_nextCount ⟨Nat.le_of_ble_eq_true rfl, Nat.le_of_ble_eq_true rfl⟩) [0, 1, 2, 3, 4, 5, 6, 7, 8, 9] rfl rfl 0 rfl rfl rfl hl.1 rfl (Nat.le_of_ble_eq_true rfl) ⟨Nat.le_refl 0, Nat.le_refl 0⟩ dX4_isLoose_18 (fun H locs hP hD hS => ?_)
        refine lv_iconst (v := 1) hx hb dX4_isLoose_21 (by decide) ?_
        refine lv_icmp_ne (tgt := 29) hx hb dX4_isLoose_22 (by decide) (fun c1009 => ?_) (fun c1009 => ?_)
        · have he := ifn he c1009
          refine lv_iconst (v := 0) hx hb dX4_isLoose_29 (by decide) ?_
          obtain rfl := some1 he
          exact cRi hx hb hr hlk hK rfl hP hD hS dX4_isLoose_30
        · have he := ifp he c1009
          refine lv_iconst (v := 1) hx hb dX4_isLoose_25 (by decide) ?_
          refine lv_goto (tgt := 30) hx hb dX4_isLoose_26 (by decide) ?_
          obtain rfl := some1 he
          exact cRi hx hb hr hlk hK rfl hP hD hS dX4_isLoose_30
  exact key ss.heap [] rfl rfl hP hS
theorem kX4_firstNext : yX4_firstNext.cls = RX4 ∧ yX4_firstNext.cls ≠ "java/lang/invoke/MethodHandle" ∧ yX4_firstNext.cls ≠ "java/lang/invoke/VarHandle" ∧ (parseMethodDescriptor yX4_firstNext.desc).map (fun d => d.parameters.length) = some 1 := by decide +kernel
set_option maxRecDepth 100000 in
set_option maxHeartbeats 4000000 in
theorem mX4_firstNext (l : Launch) (D : va_G) (k : Nat → ClassId) (a : Nat → Nat) {P : Nat → Nat → Int32} {p1 : Int32} {r : Int32}  (he : xX4_firstNext P p1 = some r) : CtI l D k yX4_firstNext wsX4_firstNext ({ frames := 0, cells := 0, slots := 0, locals := 0 } : Room) [.ref (a 0), .int p1] (wPool k a P) r (wPool k a P) := by
  intro sz9
  refine cSt (lv := [(0, .ref (a 0)), (1, .int p1)]) (own := RX4) (cc := cX4_firstNext) (nL := 3) (ret := (some .int)) (by decide +kernel) rfl rfl (Nat.le_of_ble_eq_true rfl) rfl ?_
  intro pp ee ss mm bl me co hsz hC0 hP hD hS ls hl
  subst hsz
  obtain ⟨hx, hb, hr, hml, hown, hts, hK, hlk⟩ := hC0
  have hA : ∀ q, ss.heap.size ≤ q → va_A (wPool k a P) ss.heap.size q := fun q h => Or.inr h
  have iX4 : ∀ w ∈ wsX40, w ∈ wsX4_firstNext := fun _ h => List.mem_cons_of_mem _ (List.mem_append_right _ h)
  have w1 := hts (.fieldLink RX4 9 "DeadListPool$Pool" "kind" "[I") (List.mem_of_getElem? (i := 1) rfl)
  have w2 := hts (.fieldLink RX4 18 "DeadListPool$Pool" "prev" "[I") (List.mem_of_getElem? (i := 2) rfl)
  have B2 : ∀ (n2 : Nat) (x1 : Int32) (x2 : Int32), xX4_firstNext_2 P n2 x1 x2 = some r → ∀ (H : Heap) (locs : List Loc), va_P D vwCl (wPool k a P) H → va_D (va_A (wPool k a P) ss.heap.size) (wPool k a P) → va_S (va_A (wPool k a P) ss.heap.size) ss.heap H locs → ∀ ls : Array Slot, lv_has ls 3 [(0, .ref (a 0)), (1, .int x1), (2, .int x2)] → W pp l ee ({ frames := 0, cells := 0, slots := 0, locals := 0 } : Room) ss mm ([.ref (a 0), .int p1] : List Value).toArray bl me co H locs 0 0 (MQ bl (cQi D k (wPool k a P) ss.heap.size r (wPool k a P)) ([.ref (a 0), .int p1] : List Value).toArray ss 0 0 (va_A (wPool k a P) ss.heap.size)) (F0 mm 2 ls []) := by
    intro n2
    induction n2 with
    | zero =>
      intro x1 x2 he
      exact absurd (show (none : Option (Int32)) = some r from he) (by simp)
    | succ n2 ih2 =>
      intro x1 x2 he H locs hP hD hS ls hl
      refine lv_iload_n hx hb dX4_firstNext_2 rfl (lv_at hl 2 rfl) ?_
      refine lv_bipush (v := 20) hx hb dX4_firstNext_3 (by decide) ?_
      refine lv_icmp_ge (tgt := 36) hx hb dX4_firstNext_5 (by decide) (fun c1 => ?_) (fun c1 => ?_)
      · have he := ifp he c1
        refine lv_iconst (v := (-1)) hx hb dX4_firstNext_36 (by decide) ?_
        obtain rfl := some1 he
        exact cRi hx hb hr hlk hK rfl hP hD hS dX4_firstNext_37
      · have he := ifn he c1
        refine lv_aload_n hx hb dX4_firstNext_8 rfl (lv_at hl 0 rfl) ?_
        refine va_get (D := D) (ci := 4) (v := .ref (a 1)) (C := RX4) (T := TX4) (N := 11) hx hb hts iX4 hown hK hP 0 rfl rfl 0 (by decide) w1 (fun _ h9 => h9) rfl dX4_firstNext_9 ?_
        refine lv_iload_n hx hb dX4_firstNext_12 rfl (lv_at hl 2 rfl) ?_
        obtain ⟨h2, he⟩ := grd_i he
        refine va_iald hx hb hK hP 1 0 rfl rfl (ix_in h2) dX4_firstNext_13 ?_
        refine lv_iconst (v := (-1)) hx hb dX4_firstNext_14 (by decide) ?_
        refine lv_icmp_eq (tgt := 30) hx hb dX4_firstNext_15 (by decide) (fun c3 => ?_) (fun c3 => ?_)
        · have he := ifp he c3
          refine lv_iinc (v := (x2 + 1)) (lv' := [(2, .int (x2 + 1)), (0, .ref (a 0)), (1, .int x1)]) hx hb dX4_firstNext_30 hl (k := 2) rfl rfl (by decide) rfl (fun ls hl => ?_)
          refine lv_goto (tgt := 2) hx hb dX4_firstNext_33 (by decide) ?_
          exact ih2 x1 (x2 + 1) he H locs hP hD hS ls (lv_sub hl [1, 2, 0] rfl)
        · have he := ifn he c3
          refine lv_aload_n hx hb dX4_firstNext_18 rfl (lv_at hl 0 rfl) ?_
          refine va_get (D := D) (ci := 4) (v := .ref (a 3)) (C := RX4) (T := TX4) (N := 11) hx hb hts iX4 hown hK hP 0 rfl rfl 2 (by decide) w2 (fun _ h9 => h9) rfl dX4_firstNext_19 ?_
          refine lv_iload_n hx hb dX4_firstNext_22 rfl (lv_at hl 2 rfl) ?_
          obtain ⟨h4, he⟩ := grd_i he
          refine va_iald hx hb hK hP 3 0 rfl rfl (ix_in h4) dX4_firstNext_23 ?_
          refine lv_iload_n hx hb dX4_firstNext_24 rfl (lv_at hl 1 rfl) ?_
          refine lv_icmp_ne (tgt := 30) hx hb dX4_firstNext_25 (by decide) (fun c5 => ?_) (fun c5 => ?_)
          · have he := ifn he c5
            refine lv_iinc (v := (x2 + 1)) (lv' := [(2, .int (x2 + 1)), (0, .ref (a 0)), (1, .int x1)]) hx hb dX4_firstNext_30 hl (k := 2) rfl rfl (by decide) rfl (fun ls hl => ?_)
            refine lv_goto (tgt := 2) hx hb dX4_firstNext_33 (by decide) ?_
            exact ih2 x1 (x2 + 1) he H locs hP hD hS ls (lv_sub hl [1, 2, 0] rfl)
          · have he := ifp he c5
            refine lv_iload_n hx hb dX4_firstNext_28 rfl (lv_at hl 2 rfl) ?_
            obtain rfl := some1 he
            exact cRi hx hb hr hlk hK rfl hP hD hS dX4_firstNext_29
  have hS0 := hS
  have key : ∀ (H : Heap) (locs : List Loc), H = ss.heap → locs = [] → va_P D vwCl (wPool k a P) H → va_S (va_A (wPool k a P) ss.heap.size) ss.heap H locs → W pp l ee ({ frames := 0, cells := 0, slots := 0, locals := 0 } : Room) ss mm ([.ref (a 0), .int p1] : List Value).toArray bl me co H locs 0 0 (MQ bl (cQi D k (wPool k a P) ss.heap.size r (wPool k a P)) ([.ref (a 0), .int p1] : List Value).toArray ss 0 0 (va_A (wPool k a P) ss.heap.size)) (F0 mm 0 ls []) := by
    intro H locs _ _ hP hS
    refine lv_iconst (v := 0) hx hb dX4_firstNext_0 (by decide) ?_
    refine lv_istore_n (lv' := [(2, .int 0), (0, .ref (a 0)), (1, .int p1)]) hx hb dX4_firstNext_1 rfl hl (by decide) rfl (fun ls hl => ?_)
    exact B2 600 p1 0 he H locs hP hD hS ls (lv_sub hl [1, 2, 0] rfl)
  exact key ss.heap [] rfl rfl hP hS
theorem kX4_dropThing : yX4_dropThing.cls = RX4 ∧ yX4_dropThing.cls ≠ "java/lang/invoke/MethodHandle" ∧ yX4_dropThing.cls ≠ "java/lang/invoke/VarHandle" ∧ (parseMethodDescriptor yX4_dropThing.desc).map (fun d => d.parameters.length) = some 1 := by decide +kernel
set_option maxRecDepth 100000 in
set_option maxHeartbeats 4000000 in
theorem mX4_dropThing (l : Launch) (D : va_G) (k : Nat → ClassId) (a : Nat → Nat) {P_0 : Nat → Nat → Int32} {p1 : Int32} {P' : Nat → Nat → Int32} (he : xX4_dropThing P_0 p1 = some P') : CtV l D k yX4_dropThing wsX4_dropThing ({ frames := 0, cells := 0, slots := 0, locals := 0 } : Room) [.ref (a 0), .int p1] (wPool k a P_0) (wPool k a P') := by
  intro sz9
  refine cSt (lv := [(0, .ref (a 0)), (1, .int p1)]) (own := RX4) (cc := cX4_dropThing) (nL := 3) (ret := none) (by decide +kernel) rfl rfl (Nat.le_of_ble_eq_true rfl) rfl ?_
  intro pp ee ss mm bl me co hsz hC0 hP hD hS ls hl
  subst hsz
  obtain ⟨hx, hb, hr, hml, hown, hts, hK, hlk⟩ := hC0
  have hA : ∀ q, ss.heap.size ≤ q → va_A (wPool k a P_0) ss.heap.size q := fun q h => Or.inr h
  have iX4 : ∀ w ∈ wsX40, w ∈ wsX4_dropThing := fun _ h => List.mem_cons_of_mem _ (List.mem_append_right _ h)
  have w7 := hts (.fieldLink RX4 30 "DeadListPool$Pool" "held" "[I") (List.mem_of_getElem? (i := 7) rfl)
  have w1 := hts (.fieldLink RX4 9 "DeadListPool$Pool" "kind" "[I") (List.mem_of_getElem? (i := 1) rfl)
  have w2 := hts (.fieldLink RX4 15 "DeadListPool$Pool" "made" "[I") (List.mem_of_getElem? (i := 2) rfl)
  have w3 := hts (.fieldLink RX4 18 "DeadListPool$Pool" "prev" "[I") (List.mem_of_getElem? (i := 3) rfl)
  have w4 := hts (.fieldLink RX4 21 "DeadListPool$Pool" "owner" "[I") (List.mem_of_getElem? (i := 4) rfl)
  have w5 := hts (.fieldLink RX4 24 "DeadListPool$Pool" "tags" "[I") (List.mem_of_getElem? (i := 5) rfl)
  have w6 := hts (.fieldLink RX4 27 "DeadListPool$Pool" "quota" "[I") (List.mem_of_getElem? (i := 6) rfl)
  have B55 : ∀ (n55 : Nat) (x1 : Int32) (x2 : Int32) (P : Nat → Nat → Int32), xX4_dropThing_55 n55 x1 x2 P = some P' → ∀ (H : Heap) (locs : List Loc), va_P D vwCl (wPool k a P) H → va_D (va_A (wPool k a P_0) ss.heap.size) (wPool k a P) → va_S (va_A (wPool k a P_0) ss.heap.size) ss.heap H locs → ∀ ls : Array Slot, lv_has ls 3 [(0, .ref (a 0)), (1, .int x1), (2, .int x2)] → W pp l ee ({ frames := 0, cells := 0, slots := 0, locals := 0 } : Room) ss mm ([.ref (a 0), .int p1] : List Value).toArray bl me co H locs 0 0 (MQ bl (cQv D k (wPool k a P_0) ss.heap.size (wPool k a P')) ([.ref (a 0), .int p1] : List Value).toArray ss 0 0 (va_A (wPool k a P_0) ss.heap.size)) (F0 mm 55 ls []) := by
    intro n55
    induction n55 with
    | zero =>
      intro x1 x2 P he
      exact absurd (show (none : Option ((Nat → Nat → Int32))) = some P' from he) (by simp)
    | succ n55 ih55 =>
      intro x1 x2 P he H locs hP hD hS ls hl
      refine lv_iload_n hx hb dX4_dropThing_55 rfl (lv_at hl 2 rfl) ?_
      refine lv_bipush (v := 12) hx hb dX4_dropThing_56 (by decide) ?_
      refine lv_icmp_ge (tgt := 79) hx hb dX4_dropThing_58 (by decide) (fun c1 => ?_) (fun c1 => ?_)
      · have he := ifp he c1
        obtain rfl := some1 he
        exact cRv hx hb hr hlk hK hP hD hS dX4_dropThing_79
      · have he := ifn he c1
        refine lv_aload_n hx hb dX4_dropThing_61 rfl (lv_at hl 0 rfl) ?_
        refine va_get (D := D) (ci := 4) (v := .ref (a 7)) (C := RX4) (T := TX4) (N := 11) hx hb hts iX4 hown hK hP 0 rfl rfl 6 (by decide) w7 (fun _ h9 => h9) rfl dX4_dropThing_62 ?_
        refine lv_iload_n hx hb dX4_dropThing_65 rfl (lv_at hl 1 rfl) ?_
        refine lv_bipush (v := 12) hx hb dX4_dropThing_66 (by decide) ?_
        refine lv_imul hx hb dX4_dropThing_68 ?_
        refine lv_iload_n hx hb dX4_dropThing_69 rfl (lv_at hl 2 rfl) ?_
        refine lv_iadd hx hb dX4_dropThing_70 ?_
        refine lv_iconst (v := (-1)) hx hb dX4_dropThing_71 (by decide) ?_
        obtain ⟨h2, he⟩ := grd_i he
        obtain ⟨P3, e4, he⟩ := lt_i he
        refine va_iast hx hb hK hP hD hS 7 0 rfl rfl (ix_in h2) dX4_dropThing_72 (fun H locs hP hD hS => ?_)
        have hP : va_P D vwCl (wPool k a P3) H := by rw [e4]; exact hP
        have hD : va_D _ (wPool k a P3) := va_D_adr (by rw [e4]; rfl) hD
        refine lv_iinc (v := (x2 + 1)) (lv' := [(2, .int (x2 + 1)), (0, .ref (a 0)), (1, .int x1)]) hx hb dX4_dropThing_73 hl (k := 2) rfl rfl (by decide) rfl (fun ls hl => ?_)
        refine lv_goto (tgt := 55) hx hb dX4_dropThing_76 (by decide) ?_
        exact ih55 x1 (x2 + 1) P3 he H locs hP hD hS ls (lv_sub hl [1, 2, 0] rfl)
  have hS0 := hS
  have key : ∀ (H : Heap) (locs : List Loc), H = ss.heap → locs = [] → va_P D vwCl (wPool k a P_0) H → va_S (va_A (wPool k a P_0) ss.heap.size) ss.heap H locs → W pp l ee ({ frames := 0, cells := 0, slots := 0, locals := 0 } : Room) ss mm ([.ref (a 0), .int p1] : List Value).toArray bl me co H locs 0 0 (MQ bl (cQv D k (wPool k a P_0) ss.heap.size (wPool k a P')) ([.ref (a 0), .int p1] : List Value).toArray ss 0 0 (va_A (wPool k a P_0) ss.heap.size)) (F0 mm 0 ls []) := by
    intro H locs _ _ hP hS
    refine lv_iload_n hx hb dX4_dropThing_0 rfl (lv_at hl 1 rfl) ?_
    refine lv_if_lt (tgt := 10) hx hb dX4_dropThing_1 (by decide) (fun c1001 => ?_) (fun c1001 => ?_)
    · have he := ifp he c1001
      obtain rfl := some1 he
      exact cRv hx hb hr hlk hK hP hD hS dX4_dropThing_10
    · have he := ifn he c1001
      refine lv_iload_n hx hb dX4_dropThing_4 rfl (lv_at hl 1 rfl) ?_
      refine lv_bipush (v := 20) hx hb dX4_dropThing_5 (by decide) ?_
      refine lv_icmp_lt (tgt := 11) hx hb dX4_dropThing_7 (by decide) (fun c1002 => ?_) (fun c1002 => ?_)
      · have he := ifp he c1002
        refine lv_aload_n hx hb dX4_dropThing_11 rfl (lv_at hl 0 rfl) ?_
        refine va_get (D := D) (ci := 4) (v := .ref (a 1)) (C := RX4) (T := TX4) (N := 11) hx hb hts iX4 hown hK hP 0 rfl rfl 0 (by decide) w1 (fun _ h9 => h9) rfl dX4_dropThing_12 ?_
        refine lv_iload_n hx hb dX4_dropThing_15 rfl (lv_at hl 1 rfl) ?_
        refine lv_iconst (v := (-1)) hx hb dX4_dropThing_16 (by decide) ?_
        obtain ⟨h1003, he⟩ := grd_i he
        obtain ⟨P1004, e1005, he⟩ := lt_i he
        refine va_iast hx hb hK hP hD hS 1 0 rfl rfl (ix_in h1003) dX4_dropThing_17 (fun H locs hP hD hS => ?_)
        have hP : va_P D vwCl (wPool k a P1004) H := by rw [e1005]; exact hP
        have hD : va_D _ (wPool k a P1004) := va_D_adr (by rw [e1005]; rfl) hD
        refine lv_aload_n hx hb dX4_dropThing_18 rfl (lv_at hl 0 rfl) ?_
        refine va_get (D := D) (ci := 4) (v := .ref (a 2)) (C := RX4) (T := TX4) (N := 11) hx hb hts iX4 hown hK hP 0 rfl rfl 1 (by decide) w2 (fun _ h9 => h9) rfl dX4_dropThing_19 ?_
        refine lv_iload_n hx hb dX4_dropThing_22 rfl (lv_at hl 1 rfl) ?_
        refine lv_iconst (v := 0) hx hb dX4_dropThing_23 (by decide) ?_
        obtain ⟨h1006, he⟩ := grd_i he
        obtain ⟨P1007, e1008, he⟩ := lt_i he
        refine va_iast hx hb hK hP hD hS 2 0 rfl rfl (ix_in h1006) dX4_dropThing_24 (fun H locs hP hD hS => ?_)
        have hP : va_P D vwCl (wPool k a P1007) H := by rw [e1008]; exact hP
        have hD : va_D _ (wPool k a P1007) := va_D_adr (by rw [e1008]; rfl) hD
        refine lv_aload_n hx hb dX4_dropThing_25 rfl (lv_at hl 0 rfl) ?_
        refine va_get (D := D) (ci := 4) (v := .ref (a 3)) (C := RX4) (T := TX4) (N := 11) hx hb hts iX4 hown hK hP 0 rfl rfl 2 (by decide) w3 (fun _ h9 => h9) rfl dX4_dropThing_26 ?_
        refine lv_iload_n hx hb dX4_dropThing_29 rfl (lv_at hl 1 rfl) ?_
        refine lv_iconst (v := (-1)) hx hb dX4_dropThing_30 (by decide) ?_
        obtain ⟨h1009, he⟩ := grd_i he
        obtain ⟨P1010, e1011, he⟩ := lt_i he
        refine va_iast hx hb hK hP hD hS 3 0 rfl rfl (ix_in h1009) dX4_dropThing_31 (fun H locs hP hD hS => ?_)
        have hP : va_P D vwCl (wPool k a P1010) H := by rw [e1011]; exact hP
        have hD : va_D _ (wPool k a P1010) := va_D_adr (by rw [e1011]; rfl) hD
        refine lv_aload_n hx hb dX4_dropThing_32 rfl (lv_at hl 0 rfl) ?_
        refine va_get (D := D) (ci := 4) (v := .ref (a 4)) (C := RX4) (T := TX4) (N := 11) hx hb hts iX4 hown hK hP 0 rfl rfl 3 (by decide) w4 (fun _ h9 => h9) rfl dX4_dropThing_33 ?_
        refine lv_iload_n hx hb dX4_dropThing_36 rfl (lv_at hl 1 rfl) ?_
        refine lv_iconst (v := (-1)) hx hb dX4_dropThing_37 (by decide) ?_
        obtain ⟨h1012, he⟩ := grd_i he
        obtain ⟨P1013, e1014, he⟩ := lt_i he
        refine va_iast hx hb hK hP hD hS 4 0 rfl rfl (ix_in h1012) dX4_dropThing_38 (fun H locs hP hD hS => ?_)
        have hP : va_P D vwCl (wPool k a P1013) H := by rw [e1014]; exact hP
        have hD : va_D _ (wPool k a P1013) := va_D_adr (by rw [e1014]; rfl) hD
        refine lv_aload_n hx hb dX4_dropThing_39 rfl (lv_at hl 0 rfl) ?_
        refine va_get (D := D) (ci := 4) (v := .ref (a 5)) (C := RX4) (T := TX4) (N := 11) hx hb hts iX4 hown hK hP 0 rfl rfl 4 (by decide) w5 (fun _ h9 => h9) rfl dX4_dropThing_40 ?_
        refine lv_iload_n hx hb dX4_dropThing_43 rfl (lv_at hl 1 rfl) ?_
        refine lv_iconst (v := 0) hx hb dX4_dropThing_44 (by decide) ?_
        obtain ⟨h1015, he⟩ := grd_i he
        obtain ⟨P1016, e1017, he⟩ := lt_i he
        refine va_iast hx hb hK hP hD hS 5 0 rfl rfl (ix_in h1015) dX4_dropThing_45 (fun H locs hP hD hS => ?_)
        have hP : va_P D vwCl (wPool k a P1016) H := by rw [e1017]; exact hP
        have hD : va_D _ (wPool k a P1016) := va_D_adr (by rw [e1017]; rfl) hD
        refine lv_aload_n hx hb dX4_dropThing_46 rfl (lv_at hl 0 rfl) ?_
        refine va_get (D := D) (ci := 4) (v := .ref (a 6)) (C := RX4) (T := TX4) (N := 11) hx hb hts iX4 hown hK hP 0 rfl rfl 5 (by decide) w6 (fun _ h9 => h9) rfl dX4_dropThing_47 ?_
        refine lv_iload_n hx hb dX4_dropThing_50 rfl (lv_at hl 1 rfl) ?_
        refine lv_iconst (v := (-1)) hx hb dX4_dropThing_51 (by decide) ?_
        obtain ⟨h1018, he⟩ := grd_i he
        obtain ⟨P1019, e1020, he⟩ := lt_i he
        refine va_iast hx hb hK hP hD hS 6 0 rfl rfl (ix_in h1018) dX4_dropThing_52 (fun H locs hP hD hS => ?_)
        have hP : va_P D vwCl (wPool k a P1019) H := by rw [e1020]; exact hP
        have hD : va_D _ (wPool k a P1019) := va_D_adr (by rw [e1020]; rfl) hD
        refine lv_iconst (v := 0) hx hb dX4_dropThing_53 (by decide) ?_
        refine lv_istore_n (lv' := [(2, .int 0), (0, .ref (a 0)), (1, .int p1)]) hx hb dX4_dropThing_54 rfl hl (by decide) rfl (fun ls hl => ?_)
        exact B55 600 p1 0 P1019 he H locs hP hD hS ls (lv_sub hl [1, 2, 0] rfl)
      · have he := ifn he c1002
        obtain rfl := some1 he
        exact cRv hx hb hr hlk hK hP hD hS dX4_dropThing_10
  exact key ss.heap [] rfl rfl hP hS
theorem kX4_ownCount : yX4_ownCount.cls = RX4 ∧ yX4_ownCount.cls ≠ "java/lang/invoke/MethodHandle" ∧ yX4_ownCount.cls ≠ "java/lang/invoke/VarHandle" ∧ (parseMethodDescriptor yX4_ownCount.desc).map (fun d => d.parameters.length) = some 1 := by decide +kernel
set_option maxRecDepth 100000 in
set_option maxHeartbeats 4000000 in
theorem mX4_ownCount (l : Launch) (D : va_G) (k : Nat → ClassId) (a : Nat → Nat) {P : Nat → Nat → Int32} {p1 : Int32} {r : Int32}  (he : xX4_ownCount P p1 = some r) : CtI l D k yX4_ownCount wsX4_ownCount ({ frames := 0, cells := 0, slots := 0, locals := 0 } : Room) [.ref (a 0), .int p1] (wPool k a P) r (wPool k a P) := by
  intro sz9
  refine cSt (lv := [(0, .ref (a 0)), (1, .int p1)]) (own := RX4) (cc := cX4_ownCount) (nL := 4) (ret := (some .int)) (by decide +kernel) rfl rfl (Nat.le_of_ble_eq_true rfl) rfl ?_
  intro pp ee ss mm bl me co hsz hC0 hP hD hS ls hl
  subst hsz
  obtain ⟨hx, hb, hr, hml, hown, hts, hK, hlk⟩ := hC0
  have hA : ∀ q, ss.heap.size ≤ q → va_A (wPool k a P) ss.heap.size q := fun q h => Or.inr h
  have iX4 : ∀ w ∈ wsX40, w ∈ wsX4_ownCount := fun _ h => List.mem_cons_of_mem _ (List.mem_append_right _ h)
  have w1 := hts (.fieldLink RX4 21 "DeadListPool$Pool" "owner" "[I") (List.mem_of_getElem? (i := 1) rfl)
  have B4 : ∀ (n4 : Nat) (x1 : Int32) (x2 : Int32) (x3 : Int32), xX4_ownCount_4 P n4 x1 x2 x3 = some r → ∀ (H : Heap) (locs : List Loc), va_P D vwCl (wPool k a P) H → va_D (va_A (wPool k a P) ss.heap.size) (wPool k a P) → va_S (va_A (wPool k a P) ss.heap.size) ss.heap H locs → ∀ ls : Array Slot, lv_has ls 4 [(0, .ref (a 0)), (1, .int x1), (2, .int x2), (3, .int x3)] → W pp l ee ({ frames := 0, cells := 0, slots := 0, locals := 0 } : Room) ss mm ([.ref (a 0), .int p1] : List Value).toArray bl me co H locs 0 0 (MQ bl (cQi D k (wPool k a P) ss.heap.size r (wPool k a P)) ([.ref (a 0), .int p1] : List Value).toArray ss 0 0 (va_A (wPool k a P) ss.heap.size)) (F0 mm 4 ls []) := by
    intro n4
    induction n4 with
    | zero =>
      intro x1 x2 x3 he
      exact absurd (show (none : Option (Int32)) = some r from he) (by simp)
    | succ n4 ih4 =>
      intro x1 x2 x3 he H locs hP hD hS ls hl
      refine lv_iload_n hx hb dX4_ownCount_4 rfl (lv_at hl 3 rfl) ?_
      refine lv_bipush (v := 20) hx hb dX4_ownCount_5 (by decide) ?_
      refine lv_icmp_ge (tgt := 29) hx hb dX4_ownCount_7 (by decide) (fun c1 => ?_) (fun c1 => ?_)
      · have he := ifp he c1
        refine lv_iload_n hx hb dX4_ownCount_29 rfl (lv_at hl 2 rfl) ?_
        obtain rfl := some1 he
        exact cRi hx hb hr hlk hK rfl hP hD hS dX4_ownCount_30
      · have he := ifn he c1
        refine lv_aload_n hx hb dX4_ownCount_10 rfl (lv_at hl 0 rfl) ?_
        refine va_get (D := D) (ci := 4) (v := .ref (a 4)) (C := RX4) (T := TX4) (N := 11) hx hb hts iX4 hown hK hP 0 rfl rfl 3 (by decide) w1 (fun _ h9 => h9) rfl dX4_ownCount_11 ?_
        refine lv_iload_n hx hb dX4_ownCount_14 rfl (lv_at hl 3 rfl) ?_
        obtain ⟨h2, he⟩ := grd_i he
        refine va_iald hx hb hK hP 4 0 rfl rfl (ix_in h2) dX4_ownCount_15 ?_
        refine lv_iload_n hx hb dX4_ownCount_16 rfl (lv_at hl 1 rfl) ?_
        refine lv_icmp_ne (tgt := 23) hx hb dX4_ownCount_17 (by decide) (fun c3 => ?_) (fun c3 => ?_)
        · have he := ifn he c3
          refine lv_iinc (v := (x3 + 1)) (lv' := [(3, .int (x3 + 1)), (0, .ref (a 0)), (1, .int x1), (2, .int x2)]) hx hb dX4_ownCount_23 hl (k := 3) rfl rfl (by decide) rfl (fun ls hl => ?_)
          refine lv_goto (tgt := 4) hx hb dX4_ownCount_26 (by decide) ?_
          exact ih4 x1 x2 (x3 + 1) he H locs hP hD hS ls (lv_sub hl [1, 2, 3, 0] rfl)
        · have he := ifp he c3
          refine lv_iinc (v := (x2 + 1)) (lv' := [(2, .int (x2 + 1)), (0, .ref (a 0)), (1, .int x1), (3, .int x3)]) hx hb dX4_ownCount_20 hl (k := 2) rfl rfl (by decide) rfl (fun ls hl => ?_)
          refine lv_iinc (v := (x3 + 1)) (lv' := [(3, .int (x3 + 1)), (2, .int (x2 + 1)), (0, .ref (a 0)), (1, .int x1)]) hx hb dX4_ownCount_23 hl (k := 3) rfl rfl (by decide) rfl (fun ls hl => ?_)
          refine lv_goto (tgt := 4) hx hb dX4_ownCount_26 (by decide) ?_
          exact ih4 x1 (x2 + 1) (x3 + 1) he H locs hP hD hS ls (lv_sub hl [2, 3, 1, 0] rfl)
  have hS0 := hS
  have key : ∀ (H : Heap) (locs : List Loc), H = ss.heap → locs = [] → va_P D vwCl (wPool k a P) H → va_S (va_A (wPool k a P) ss.heap.size) ss.heap H locs → W pp l ee ({ frames := 0, cells := 0, slots := 0, locals := 0 } : Room) ss mm ([.ref (a 0), .int p1] : List Value).toArray bl me co H locs 0 0 (MQ bl (cQi D k (wPool k a P) ss.heap.size r (wPool k a P)) ([.ref (a 0), .int p1] : List Value).toArray ss 0 0 (va_A (wPool k a P) ss.heap.size)) (F0 mm 0 ls []) := by
    intro H locs _ _ hP hS
    refine lv_iconst (v := 0) hx hb dX4_ownCount_0 (by decide) ?_
    refine lv_istore_n (lv' := [(2, .int 0), (0, .ref (a 0)), (1, .int p1)]) hx hb dX4_ownCount_1 rfl hl (by decide) rfl (fun ls hl => ?_)
    refine lv_iconst (v := 0) hx hb dX4_ownCount_2 (by decide) ?_
    refine lv_istore_n (lv' := [(3, .int 0), (2, .int 0), (0, .ref (a 0)), (1, .int p1)]) hx hb dX4_ownCount_3 rfl hl (by decide) rfl (fun ls hl => ?_)
    exact B4 600 p1 0 0 he H locs hP hD hS ls (lv_sub hl [2, 3, 1, 0] rfl)
  exact key ss.heap [] rfl rfl hP hS
theorem kX4_isFiles : yX4_isFiles.cls = RX4 ∧ yX4_isFiles.cls ≠ "java/lang/invoke/MethodHandle" ∧ yX4_isFiles.cls ≠ "java/lang/invoke/VarHandle" ∧ (parseMethodDescriptor yX4_isFiles.desc).map (fun d => d.parameters.length) = some 1 := by decide +kernel
set_option maxRecDepth 100000 in
set_option maxHeartbeats 4000000 in
theorem mX4_isFiles (l : Launch) (D : va_G) (k : Nat → ClassId) (a : Nat → Nat) {P : Nat → Nat → Int32} {p1 : Int32} {r : Int32}  (he : xX4_isFiles P p1 = some r) : CtI l D k yX4_isFiles wsX4_isFiles ({ frames := 1, cells := 0, slots := 0, locals := 21 } : Room) [.ref (a 0), .int p1] (wPool k a P) r (wPool k a P) := by
  intro sz9
  refine cSt (lv := [(0, .ref (a 0)), (1, .int p1)]) (own := RX4) (cc := cX4_isFiles) (nL := 3) (ret := (some .boolean)) (by decide +kernel) rfl rfl (Nat.le_of_ble_eq_true rfl) rfl ?_
  intro pp ee ss mm bl me co hsz hC0 hP hD hS ls hl
  subst hsz
  obtain ⟨hx, hb, hr, hml, hown, hts, hK, hlk⟩ := hC0
  have hA : ∀ q, ss.heap.size ≤ q → va_A (wPool k a P) ss.heap.size q := fun q h => Or.inr h
  have hS0 := hS
  have key : ∀ (H : Heap) (locs : List Loc), H = ss.heap → locs = [] → va_P D vwCl (wPool k a P) H → va_S (va_A (wPool k a P) ss.heap.size) ss.heap H locs → W pp l ee ({ frames := 1, cells := 0, slots := 0, locals := 21 } : Room) ss mm ([.ref (a 0), .int p1] : List Value).toArray bl me co H locs 0 0 (MQ bl (cQi D k (wPool k a P) ss.heap.size r (wPool k a P)) ([.ref (a 0), .int p1] : List Value).toArray ss 0 0 (va_A (wPool k a P) ss.heap.size)) (F0 mm 0 ls []) := by
    intro H locs _ _ hP hS
    refine lv_aload_n hx hb dX4_isFiles_0 rfl (lv_at hl 0 rfl) ?_
    refine lv_iload_n hx hb dX4_isFiles_1 rfl (lv_at hl 1 rfl) ?_
    obtain ⟨v1001, h1002, he⟩ := bn1_i he
    refine cVir (As := [.int p1]) (rest := []) ⟨hx, hb, hml, hown, hts⟩ hK hA hP hD hS (mX4_kindOf l D k a (P := P) h1002) (cwV 1 hts gX4_isFiles_X4_kindOf rfl rfl rfl kX4_kindOf ⟨Nat.le_of_ble_eq_true rfl, Nat.le_of_ble_eq_true rfl⟩) [0, 1, 2, 3, 4, 5, 6, 7, 8, 9] rfl rfl 0 rfl rfl rfl hl.1 rfl (Nat.le_of_ble_eq_true rfl) ⟨Nat.le_refl 0, Nat.le_refl 0⟩ dX4_isFiles_2 (fun H locs hP hD hS => ?_)
    refine lv_istore_n (lv' := [(2, .int v1001), (0, .ref (a 0)), (1, .int p1)]) hx hb dX4_isFiles_5 rfl hl (by decide) rfl (fun ls hl => ?_)
    refine lv_iload_n hx hb dX4_isFiles_6 rfl (lv_at hl 0 rfl) ?_
    refine lv_if_eq (tgt := 15) hx hb dX4_isFiles_7 (by decide) (fun c1003 => ?_) (fun c1003 => ?_)
    · have he := ifp he c1003
      refine lv_iconst (v := 1) hx hb dX4_isFiles_15 (by decide) ?_
      refine lv_goto (tgt := 20) hx hb dX4_isFiles_16 (by decide) ?_
      obtain rfl := some1 he
      exact cRi hx hb hr hlk hK rfl hP hD hS dX4_isFiles_20
    · have he := ifn he c1003
      refine lv_iload_n hx hb dX4_isFiles_10 rfl (lv_at hl 0 rfl) ?_
      refine lv_iconst (v := 1) hx hb dX4_isFiles_11 (by decide) ?_
      refine lv_icmp_ne (tgt := 19) hx hb dX4_isFiles_12 (by decide) (fun c1004 => ?_) (fun c1004 => ?_)
      · have he := ifn he c1004
        refine lv_iconst (v := 0) hx hb dX4_isFiles_19 (by decide) ?_
        obtain rfl := some1 he
        exact cRi hx hb hr hlk hK rfl hP hD hS dX4_isFiles_20
      · have he := ifp he c1004
        refine lv_iconst (v := 1) hx hb dX4_isFiles_15 (by decide) ?_
        refine lv_goto (tgt := 20) hx hb dX4_isFiles_16 (by decide) ?_
        obtain rfl := some1 he
        exact cRi hx hb hr hlk hK rfl hP hD hS dX4_isFiles_20
  exact key ss.heap [] rfl rfl hP hS
theorem kX4_inChain : yX4_inChain.cls = RX4 ∧ yX4_inChain.cls ≠ "java/lang/invoke/MethodHandle" ∧ yX4_inChain.cls ≠ "java/lang/invoke/VarHandle" ∧ (parseMethodDescriptor yX4_inChain.desc).map (fun d => d.parameters.length) = some 2 := by decide +kernel
set_option maxRecDepth 100000 in
set_option maxHeartbeats 4000000 in
theorem mX4_inChain (l : Launch) (D : va_G) (k : Nat → ClassId) (a : Nat → Nat) {P : Nat → Nat → Int32} {p1 : Int32} {p2 : Int32} {r : Int32}  (he : xX4_inChain P p1 p2 = some r) : CtI l D k yX4_inChain wsX4_inChain ({ frames := 1, cells := 0, slots := 0, locals := 21 } : Room) [.ref (a 0), .int p1, .int p2] (wPool k a P) r (wPool k a P) := by
  intro sz9
  refine cSt (lv := [(0, .ref (a 0)), (1, .int p1), (2, .int p2)]) (own := RX4) (cc := cX4_inChain) (nL := 5) (ret := (some .int)) (by decide +kernel) rfl rfl (Nat.le_of_ble_eq_true rfl) rfl ?_
  intro pp ee ss mm bl me co hsz hC0 hP hD hS ls hl
  subst hsz
  obtain ⟨hx, hb, hr, hml, hown, hts, hK, hlk⟩ := hC0
  have hA : ∀ q, ss.heap.size ≤ q → va_A (wPool k a P) ss.heap.size q := fun q h => Or.inr h
  have B21 : ∀ (n21 : Nat) (x2 : Int32) (x3 : Int32) (x4 : Int32), xX4_inChain_21 P n21 x2 x3 x4 = some r → ∀ (H : Heap) (locs : List Loc), va_P D vwCl (wPool k a P) H → va_D (va_A (wPool k a P) ss.heap.size) (wPool k a P) → va_S (va_A (wPool k a P) ss.heap.size) ss.heap H locs → ∀ ls : Array Slot, lv_has ls 5 [(0, .ref (a 0)), (2, .int x2), (3, .int x3), (4, .int x4)] → W pp l ee ({ frames := 1, cells := 0, slots := 0, locals := 21 } : Room) ss mm ([.ref (a 0), .int p1, .int p2] : List Value).toArray bl me co H locs 0 0 (MQ bl (cQi D k (wPool k a P) ss.heap.size r (wPool k a P)) ([.ref (a 0), .int p1, .int p2] : List Value).toArray ss 0 0 (va_A (wPool k a P) ss.heap.size)) (F0 mm 21 ls []) := by
    intro n21
    induction n21 with
    | zero =>
      intro x2 x3 x4 he
      exact absurd (show (none : Option (Int32)) = some r from he) (by simp)
    | succ n21 ih21 =>
      intro x2 x3 x4 he H locs hP hD hS ls hl
      refine lv_iload hx hb dX4_inChain_21 (lv_at hl 3 rfl) ?_
      refine lv_iload_n hx hb dX4_inChain_23 rfl (lv_at hl 1 rfl) ?_
      refine lv_icmp_ge (tgt := 44) hx hb dX4_inChain_24 (by decide) (fun c1 => ?_) (fun c1 => ?_)
      · have he := ifp he c1
        refine lv_iload_n hx hb dX4_inChain_44 rfl (lv_at hl 2 rfl) ?_
        obtain rfl := some1 he
        exact cRi hx hb hr hlk hK rfl hP hD hS dX4_inChain_45
      · have he := ifn he c1
        refine lv_iload_n hx hb dX4_inChain_27 rfl (lv_at hl 2 rfl) ?_
        refine lv_iconst (v := (-1)) hx hb dX4_inChain_28 (by decide) ?_
        refine lv_icmp_eq (tgt := 44) hx hb dX4_inChain_29 (by decide) (fun c2 => ?_) (fun c2 => ?_)
        · have he := ifp he c2
          refine lv_iload_n hx hb dX4_inChain_44 rfl (lv_at hl 2 rfl) ?_
          obtain rfl := some1 he
          exact cRi hx hb hr hlk hK rfl hP hD hS dX4_inChain_45
        · have he := ifn he c2
          refine lv_aload_n hx hb dX4_inChain_32 rfl (lv_at hl 0 rfl) ?_
          refine lv_iload_n hx hb dX4_inChain_33 rfl (lv_at hl 2 rfl) ?_
          obtain ⟨v3, h4, he⟩ := bn1_i he
          refine cVir (As := [.int x3]) (rest := []) ⟨hx, hb, hml, hown, hts⟩ hK hA hP hD hS (mX4_prevOf l D k a (P := P) h4) (cwV 1 hts gX4_inChain_X4_prevOf rfl rfl rfl kX4_prevOf ⟨Nat.le_of_ble_eq_true rfl, Nat.le_of_ble_eq_true rfl⟩) [0, 1, 2, 3, 4, 5, 6, 7, 8, 9] rfl rfl 0 rfl rfl rfl hl.1 rfl (Nat.le_of_ble_eq_true rfl) ⟨Nat.le_refl 0, Nat.le_refl 0⟩ dX4_inChain_34 (fun H locs hP hD hS => ?_)
          refine lv_istore_n (lv' := [(3, .int v3), (0, .ref (a 0)), (2, .int x2), (4, .int x4)]) hx hb dX4_inChain_37 rfl hl (by decide) rfl (fun ls hl => ?_)
          refine lv_iinc (v := (x4 + 1)) (lv' := [(4, .int (x4 + 1)), (3, .int v3), (0, .ref (a 0)), (2, .int x2)]) hx hb dX4_inChain_38 hl (k := 3) rfl rfl (by decide) rfl (fun ls hl => ?_)
          refine lv_goto (tgt := 21) hx hb dX4_inChain_41 (by decide) ?_
          exact ih21 x2 v3 (x4 + 1) he H locs hP hD hS ls (lv_sub hl [2, 3, 1, 0] rfl)
  have hS0 := hS
  have key : ∀ (H : Heap) (locs : List Loc), H = ss.heap → locs = [] → va_P D vwCl (wPool k a P) H → va_S (va_A (wPool k a P) ss.heap.size) ss.heap H locs → W pp l ee ({ frames := 1, cells := 0, slots := 0, locals := 21 } : Room) ss mm ([.ref (a 0), .int p1, .int p2] : List Value).toArray bl me co H locs 0 0 (MQ bl (cQi D k (wPool k a P) ss.heap.size r (wPool k a P)) ([.ref (a 0), .int p1, .int p2] : List Value).toArray ss 0 0 (va_A (wPool k a P) ss.heap.size)) (F0 mm 0 ls []) := by
    intro H locs _ _ hP hS
    refine lv_iload_n hx hb dX4_inChain_0 rfl (lv_at hl 2 rfl) ?_
    refine lv_if_lt (tgt := 10) hx hb dX4_inChain_1 (by decide) (fun c1001 => ?_) (fun c1001 => ?_)
    · have he := ifp he c1001
      refine lv_iconst (v := (-1)) hx hb dX4_inChain_10 (by decide) ?_
      obtain rfl := some1 he
      exact cRi hx hb hr hlk hK rfl hP hD hS dX4_inChain_11
    · have he := ifn he c1001
      refine lv_iload_n hx hb dX4_inChain_4 rfl (lv_at hl 2 rfl) ?_
      refine lv_bipush (v := 20) hx hb dX4_inChain_5 (by decide) ?_
      refine lv_icmp_lt (tgt := 12) hx hb dX4_inChain_7 (by decide) (fun c1002 => ?_) (fun c1002 => ?_)
      · have he := ifp he c1002
        refine lv_aload_n hx hb dX4_inChain_12 rfl (lv_at hl 0 rfl) ?_
        refine lv_iload_n hx hb dX4_inChain_13 rfl (lv_at hl 1 rfl) ?_
        obtain ⟨v1003, h1004, he⟩ := bn1_i he
        refine cVir (As := [.int p1]) (rest := []) ⟨hx, hb, hml, hown, hts⟩ hK hA hP hD hS (mX4_prevOf l D k a (P := P) h1004) (cwV 1 hts gX4_inChain_X4_prevOf rfl rfl rfl kX4_prevOf ⟨Nat.le_of_ble_eq_true rfl, Nat.le_of_ble_eq_true rfl⟩) [0, 1, 2, 3, 4, 5, 6, 7, 8, 9] rfl rfl 0 rfl rfl rfl hl.1 rfl (Nat.le_of_ble_eq_true rfl) ⟨Nat.le_refl 0, Nat.le_refl 0⟩ dX4_inChain_14 (fun H locs hP hD hS => ?_)
        refine lv_istore_n (lv' := [(3, .int v1003), (0, .ref (a 0)), (1, .int p1), (2, .int p2)]) hx hb dX4_inChain_17 rfl hl (by decide) rfl (fun ls hl => ?_)
        refine lv_iconst (v := 0) hx hb dX4_inChain_18 (by decide) ?_
        refine lv_istore (lv' := [(4, .int 0), (3, .int v1003), (0, .ref (a 0)), (1, .int p1), (2, .int p2)]) hx hb dX4_inChain_19 hl (by decide) rfl (fun ls hl => ?_)
        exact B21 600 p2 v1003 0 he H locs hP hD hS ls (lv_sub hl [2, 4, 1, 0] rfl)
      · have he := ifn he c1002
        refine lv_iconst (v := (-1)) hx hb dX4_inChain_10 (by decide) ?_
        obtain rfl := some1 he
        exact cRi hx hb hr hlk hK rfl hP hD hS dX4_inChain_11
  exact key ss.heap [] rfl rfl hP hS
theorem kX4_originOf : yX4_originOf.cls = RX4 ∧ yX4_originOf.cls ≠ "java/lang/invoke/MethodHandle" ∧ yX4_originOf.cls ≠ "java/lang/invoke/VarHandle" ∧ (parseMethodDescriptor yX4_originOf.desc).map (fun d => d.parameters.length) = some 1 := by decide +kernel
set_option maxRecDepth 100000 in
set_option maxHeartbeats 4000000 in
theorem mX4_originOf (l : Launch) (D : va_G) (k : Nat → ClassId) (a : Nat → Nat) {P : Nat → Nat → Int32} {p1 : Int32} {r : Int32}  (he : xX4_originOf P p1 = some r) : CtI l D k yX4_originOf wsX4_originOf ({ frames := 2, cells := 0, slots := 0, locals := 45 } : Room) [.ref (a 0), .int p1] (wPool k a P) r (wPool k a P) := by
  intro sz9
  refine cSt (lv := [(0, .ref (a 0)), (1, .int p1)]) (own := RX4) (cc := cX4_originOf) (nL := 2) (ret := (some .int)) (by decide +kernel) rfl rfl (Nat.le_of_ble_eq_true rfl) rfl ?_
  intro pp ee ss mm bl me co hsz hC0 hP hD hS ls hl
  subst hsz
  obtain ⟨hx, hb, hr, hml, hown, hts, hK, hlk⟩ := hC0
  have hA : ∀ q, ss.heap.size ≤ q → va_A (wPool k a P) ss.heap.size q := fun q h => Or.inr h
  have hS0 := hS
  have key : ∀ (H : Heap) (locs : List Loc), H = ss.heap → locs = [] → va_P D vwCl (wPool k a P) H → va_S (va_A (wPool k a P) ss.heap.size) ss.heap H locs → W pp l ee ({ frames := 2, cells := 0, slots := 0, locals := 45 } : Room) ss mm ([.ref (a 0), .int p1] : List Value).toArray bl me co H locs 0 0 (MQ bl (cQi D k (wPool k a P) ss.heap.size r (wPool k a P)) ([.ref (a 0), .int p1] : List Value).toArray ss 0 0 (va_A (wPool k a P) ss.heap.size)) (F0 mm 0 ls []) := by
    intro H locs _ _ hP hS
    refine lv_aload_n hx hb dX4_originOf_0 rfl (lv_at hl 0 rfl) ?_
    refine lv_iload_n hx hb dX4_originOf_1 rfl (lv_at hl 1 rfl) ?_
    obtain ⟨v1001, h1002, he⟩ := bn1_i he
    refine cVir (As := [.int p1]) (rest := []) ⟨hx, hb, hml, hown, hts⟩ hK hA hP hD hS (mX4_isFiles l D k a (P := P) h1002) (cwV 1 hts gX4_originOf_X4_isFiles rfl rfl rfl kX4_isFiles ⟨Nat.le_of_ble_eq_true rfl, Nat.le_of_ble_eq_true rfl⟩) [0, 1, 2, 3, 4, 5, 6, 7, 8, 9] rfl rfl 0 rfl rfl rfl hl.1 rfl (Nat.le_of_ble_eq_true rfl) ⟨Nat.le_refl 0, Nat.le_refl 0⟩ dX4_originOf_2 (fun H locs hP hD hS => ?_)
    refine lv_if_eq (tgt := 21) hx hb dX4_originOf_5 (by decide) (fun c1003 => ?_) (fun c1003 => ?_)
    · have he := ifp he c1003
      refine lv_iconst (v := (-1)) hx hb dX4_originOf_21 (by decide) ?_
      obtain rfl := some1 he
      exact cRi hx hb hr hlk hK rfl hP hD hS dX4_originOf_22
    · have he := ifn he c1003
      refine lv_aload_n hx hb dX4_originOf_8 rfl (lv_at hl 0 rfl) ?_
      refine lv_iload_n hx hb dX4_originOf_9 rfl (lv_at hl 1 rfl) ?_
      refine lv_aload_n hx hb dX4_originOf_10 rfl (lv_at hl 0 rfl) ?_
      refine lv_iload_n hx hb dX4_originOf_11 rfl (lv_at hl 1 rfl) ?_
      obtain ⟨v1004, h1005, he⟩ := bn1_i he
      refine cVir (As := [.int p1]) (rest := [.int p1, .ref (a 0)]) ⟨hx, hb, hml, hown, hts⟩ hK hA hP hD hS (mX4_ownCount l D k a (P := P) h1005) (cwV 1 hts gX4_originOf_X4_ownCount rfl rfl rfl kX4_ownCount ⟨Nat.le_of_ble_eq_true rfl, Nat.le_of_ble_eq_true rfl⟩) [0, 1, 2, 3, 4, 5, 6, 7, 8, 9] rfl rfl 0 rfl rfl rfl hl.1 rfl (Nat.le_of_ble_eq_true rfl) ⟨Nat.le_refl 0, Nat.le_refl 0⟩ dX4_originOf_12 (fun H locs hP hD hS => ?_)
      obtain ⟨v1006, h1007, he⟩ := bn1_i he
      refine cVir (As := [.int p1, .int v1004]) (rest := []) ⟨hx, hb, hml, hown, hts⟩ hK hA hP hD hS (mX4_inChain l D k a (P := P) h1007) (cwV 2 hts gX4_originOf_X4_inChain rfl rfl rfl kX4_inChain ⟨Nat.le_of_ble_eq_true rfl, Nat.le_of_ble_eq_true rfl⟩) [0, 1, 2, 3, 4, 5, 6, 7, 8, 9] rfl rfl 0 rfl rfl rfl hl.1 rfl (Nat.le_of_ble_eq_true rfl) ⟨Nat.le_refl 0, Nat.le_refl 0⟩ dX4_originOf_15 (fun H locs hP hD hS => ?_)
      refine lv_goto (tgt := 22) hx hb dX4_originOf_18 (by decide) ?_
      obtain rfl := some1 he
      exact cRi hx hb hr hlk hK rfl hP hD hS dX4_originOf_22
  exact key ss.heap [] rfl rfl hP hS
theorem kX4_ownerOf : yX4_ownerOf.cls = RX4 ∧ yX4_ownerOf.cls ≠ "java/lang/invoke/MethodHandle" ∧ yX4_ownerOf.cls ≠ "java/lang/invoke/VarHandle" ∧ (parseMethodDescriptor yX4_ownerOf.desc).map (fun d => d.parameters.length) = some 1 := by decide +kernel
set_option maxRecDepth 100000 in
set_option maxHeartbeats 4000000 in
theorem mX4_ownerOf (l : Launch) (D : va_G) (k : Nat → ClassId) (a : Nat → Nat) {P : Nat → Nat → Int32} {p1 : Int32} {r : Int32}  (he : xX4_ownerOf P p1 = some r) : CtI l D k yX4_ownerOf wsX4_ownerOf ({ frames := 0, cells := 0, slots := 0, locals := 0 } : Room) [.ref (a 0), .int p1] (wPool k a P) r (wPool k a P) := by
  intro sz9
  refine cSt (lv := [(0, .ref (a 0)), (1, .int p1)]) (own := RX4) (cc := cX4_ownerOf) (nL := 2) (ret := (some .int)) (by decide +kernel) rfl rfl (Nat.le_of_ble_eq_true rfl) rfl ?_
  intro pp ee ss mm bl me co hsz hC0 hP hD hS ls hl
  subst hsz
  obtain ⟨hx, hb, hr, hml, hown, hts, hK, hlk⟩ := hC0
  have hA : ∀ q, ss.heap.size ≤ q → va_A (wPool k a P) ss.heap.size q := fun q h => Or.inr h
  have iX4 : ∀ w ∈ wsX40, w ∈ wsX4_ownerOf := fun _ h => List.mem_cons_of_mem _ (List.mem_append_right _ h)
  have w1 := hts (.fieldLink RX4 21 "DeadListPool$Pool" "owner" "[I") (List.mem_of_getElem? (i := 1) rfl)
  have hS0 := hS
  have key : ∀ (H : Heap) (locs : List Loc), H = ss.heap → locs = [] → va_P D vwCl (wPool k a P) H → va_S (va_A (wPool k a P) ss.heap.size) ss.heap H locs → W pp l ee ({ frames := 0, cells := 0, slots := 0, locals := 0 } : Room) ss mm ([.ref (a 0), .int p1] : List Value).toArray bl me co H locs 0 0 (MQ bl (cQi D k (wPool k a P) ss.heap.size r (wPool k a P)) ([.ref (a 0), .int p1] : List Value).toArray ss 0 0 (va_A (wPool k a P) ss.heap.size)) (F0 mm 0 ls []) := by
    intro H locs _ _ hP hS
    refine lv_iload_n hx hb dX4_ownerOf_0 rfl (lv_at hl 1 rfl) ?_
    refine lv_if_lt (tgt := 19) hx hb dX4_ownerOf_1 (by decide) (fun c1001 => ?_) (fun c1001 => ?_)
    · have he := ifp he c1001
      refine lv_iconst (v := (-1)) hx hb dX4_ownerOf_19 (by decide) ?_
      obtain rfl := some1 he
      exact cRi hx hb hr hlk hK rfl hP hD hS dX4_ownerOf_20
    · have he := ifn he c1001
      refine lv_iload_n hx hb dX4_ownerOf_4 rfl (lv_at hl 1 rfl) ?_
      refine lv_bipush (v := 20) hx hb dX4_ownerOf_5 (by decide) ?_
      refine lv_icmp_ge (tgt := 19) hx hb dX4_ownerOf_7 (by decide) (fun c1002 => ?_) (fun c1002 => ?_)
      · have he := ifp he c1002
        refine lv_iconst (v := (-1)) hx hb dX4_ownerOf_19 (by decide) ?_
        obtain rfl := some1 he
        exact cRi hx hb hr hlk hK rfl hP hD hS dX4_ownerOf_20
      · have he := ifn he c1002
        refine lv_aload_n hx hb dX4_ownerOf_10 rfl (lv_at hl 0 rfl) ?_
        refine va_get (D := D) (ci := 4) (v := .ref (a 4)) (C := RX4) (T := TX4) (N := 11) hx hb hts iX4 hown hK hP 0 rfl rfl 3 (by decide) w1 (fun _ h9 => h9) rfl dX4_ownerOf_11 ?_
        refine lv_iload_n hx hb dX4_ownerOf_14 rfl (lv_at hl 1 rfl) ?_
        obtain ⟨h1003, he⟩ := grd_i he
        refine va_iald hx hb hK hP 4 0 rfl rfl (ix_in h1003) dX4_ownerOf_15 ?_
        refine lv_goto (tgt := 20) hx hb dX4_ownerOf_16 (by decide) ?_
        obtain rfl := some1 he
        exact cRi hx hb hr hlk hK rfl hP hD hS dX4_ownerOf_20
  exact key ss.heap [] rfl rfl hP hS
theorem kX4_copyFrom : yX4_copyFrom.cls = RX4 ∧ yX4_copyFrom.cls ≠ "java/lang/invoke/MethodHandle" ∧ yX4_copyFrom.cls ≠ "java/lang/invoke/VarHandle" ∧ (parseMethodDescriptor yX4_copyFrom.desc).map (fun d => d.parameters.length) = some 1 := by decide +kernel
set_option maxRecDepth 100000 in
set_option maxHeartbeats 4000000 in
theorem mX4_copyFrom (l : Launch) (D : va_G) (k : Nat → ClassId) (a : Nat → Nat) (b : Nat → Nat) {P_0 : Nat → Nat → Int32} {O : Nat → Nat → Int32}  {P' : Nat → Nat → Int32} (he : xX4_copyFrom O P_0 = some P') : CtV l D k yX4_copyFrom wsX4_copyFrom ({ frames := 1, cells := 0, slots := 0, locals := 60 } : Room) [.ref (a 0), .ref (b 0)] (wCopy k a b P_0 O) (wCopy k a b P' O) := by
  intro sz9
  refine cSt (lv := [(0, .ref (a 0)), (1, .ref (b 0))]) (own := RX4) (cc := cX4_copyFrom) (nL := 2) (ret := none) (by decide +kernel) rfl rfl (Nat.le_of_ble_eq_true rfl) rfl ?_
  intro pp ee ss mm bl me co hsz hC0 hP hD hS ls hl
  subst hsz
  obtain ⟨hx, hb, hr, hml, hown, hts, hK, hlk⟩ := hC0
  have hA : ∀ q, ss.heap.size ≤ q → va_A (wCopy k a b P_0 O) ss.heap.size q := fun q h => Or.inr h
  have iX4 : ∀ w ∈ wsX40, w ∈ wsX4_copyFrom := fun _ h => List.mem_cons_of_mem _ (List.mem_append_right _ h)
  have w1 := hts (.fieldLink RX4 9 "DeadListPool$Pool" "kind" "[I") (List.mem_of_getElem? (i := 1) rfl)
  have w2 := hts (.methodLink RX4 46 arraycopyName) (List.mem_of_getElem? (i := 2) rfl)
  have w3 := hts (.native arraycopyName) (List.mem_of_getElem? (i := 3) rfl)
  have w4 := hts (.static arraycopyName) (List.mem_of_getElem? (i := 4) rfl)
  have w5 := hts (.initialized "java/lang/System") (List.mem_of_getElem? (i := 5) rfl)
  have w6 := hts (.fieldLink RX4 15 "DeadListPool$Pool" "made" "[I") (List.mem_of_getElem? (i := 6) rfl)
  have w7 := hts (.fieldLink RX4 18 "DeadListPool$Pool" "prev" "[I") (List.mem_of_getElem? (i := 7) rfl)
  have w8 := hts (.fieldLink RX4 21 "DeadListPool$Pool" "owner" "[I") (List.mem_of_getElem? (i := 8) rfl)
  have w9 := hts (.fieldLink RX4 24 "DeadListPool$Pool" "tags" "[I") (List.mem_of_getElem? (i := 9) rfl)
  have w10 := hts (.fieldLink RX4 27 "DeadListPool$Pool" "quota" "[I") (List.mem_of_getElem? (i := 10) rfl)
  have w11 := hts (.fieldLink RX4 30 "DeadListPool$Pool" "held" "[I") (List.mem_of_getElem? (i := 11) rfl)
  have w12 := hts (.fieldLink RX4 33 "DeadListPool$Pool" "size" "[I") (List.mem_of_getElem? (i := 12) rfl)
  have w13 := hts (.fieldLink RX4 36 "DeadListPool$Pool" "birth" "[I") (List.mem_of_getElem? (i := 13) rfl)
  have w14 := hts (.fieldLink RX4 39 "DeadListPool$Pool" "time" "I") (List.mem_of_getElem? (i := 14) rfl)
  have w15 := hts (.fieldLink RX4 43 "DeadListPool$Pool" "freed" "I") (List.mem_of_getElem? (i := 15) rfl)
  have hS0 := hS
  have key : ∀ (H : Heap) (locs : List Loc), H = ss.heap → locs = [] → va_P D vwCl (wCopy k a b P_0 O) H → va_S (va_A (wCopy k a b P_0 O) ss.heap.size) ss.heap H locs → W pp l ee ({ frames := 1, cells := 0, slots := 0, locals := 60 } : Room) ss mm ([.ref (a 0), .ref (b 0)] : List Value).toArray bl me co H locs 0 0 (MQ bl (cQv D k (wCopy k a b P_0 O) ss.heap.size (wCopy k a b P' O)) ([.ref (a 0), .ref (b 0)] : List Value).toArray ss 0 0 (va_A (wCopy k a b P_0 O) ss.heap.size)) (F0 mm 0 ls []) := by
    intro H locs _ _ hP hS
    refine lv_aload_n hx hb dX4_copyFrom_0 rfl (lv_at hl 1 rfl) ?_
    refine va_get (D := D) (ci := 4) (v := .ref (b 1)) (C := RX4) (T := TX4) (N := 11) hx hb hts iX4 hown hK hP 10 rfl rfl 0 (by decide) w1 (fun _ h9 => h9) rfl dX4_copyFrom_1 ?_
    refine lv_iconst (v := 0) hx hb dX4_copyFrom_4 (by decide) ?_
    refine lv_aload_n hx hb dX4_copyFrom_5 rfl (lv_at hl 0 rfl) ?_
    refine va_get (D := D) (ci := 4) (v := .ref (a 1)) (C := RX4) (T := TX4) (N := 11) hx hb hts iX4 hown hK hP 0 rfl rfl 0 (by decide) w1 (fun _ h9 => h9) rfl dX4_copyFrom_6 ?_
    refine lv_iconst (v := 0) hx hb dX4_copyFrom_9 (by decide) ?_
    refine lv_bipush (v := 20) hx hb dX4_copyFrom_10 (by decide) ?_
    obtain ⟨P1001, e1002, he⟩ := lt_i he
    refine va_copyi (ty := .int) hx hb (hml.trans hl.1.symm) hown w2 w3 w4 w5 hK hP hD hS 11 1 0 0 rfl rfl rfl rfl rfl (by decide) (by decide) (by decide) (by decide) (by decide) (fun _ _ => rfl) (Nat.le_of_ble_eq_true rfl) (by decide +kernel) dX4_copyFrom_12 (fun H locs hP hD hS => ?_)
    have hP : va_P D vwCl (wCopy k a b P1001 O) H := by rw [e1002]; exact hP
    have hD : va_D _ (wCopy k a b P1001 O) := va_D_adr (by rw [e1002]; rfl) hD
    refine lv_aload_n hx hb dX4_copyFrom_15 rfl (lv_at hl 1 rfl) ?_
    refine va_get (D := D) (ci := 4) (v := .ref (b 2)) (C := RX4) (T := TX4) (N := 11) hx hb hts iX4 hown hK hP 10 rfl rfl 1 (by decide) w6 (fun _ h9 => h9) rfl dX4_copyFrom_16 ?_
    refine lv_iconst (v := 0) hx hb dX4_copyFrom_19 (by decide) ?_
    refine lv_aload_n hx hb dX4_copyFrom_20 rfl (lv_at hl 0 rfl) ?_
    refine va_get (D := D) (ci := 4) (v := .ref (a 2)) (C := RX4) (T := TX4) (N := 11) hx hb hts iX4 hown hK hP 0 rfl rfl 1 (by decide) w6 (fun _ h9 => h9) rfl dX4_copyFrom_21 ?_
    refine lv_iconst (v := 0) hx hb dX4_copyFrom_24 (by decide) ?_
    refine lv_bipush (v := 20) hx hb dX4_copyFrom_25 (by decide) ?_
    obtain ⟨P1003, e1004, he⟩ := lt_i he
    refine va_copyi (ty := .int) hx hb (hml.trans hl.1.symm) hown w2 w3 w4 w5 hK hP hD hS 12 2 0 0 rfl rfl rfl rfl rfl (by decide) (by decide) (by decide) (by decide) (by decide) (fun _ _ => rfl) (Nat.le_of_ble_eq_true rfl) (by decide +kernel) dX4_copyFrom_27 (fun H locs hP hD hS => ?_)
    have hP : va_P D vwCl (wCopy k a b P1003 O) H := by rw [e1004]; exact hP
    have hD : va_D _ (wCopy k a b P1003 O) := va_D_adr (by rw [e1004]; rfl) hD
    refine lv_aload_n hx hb dX4_copyFrom_30 rfl (lv_at hl 1 rfl) ?_
    refine va_get (D := D) (ci := 4) (v := .ref (b 3)) (C := RX4) (T := TX4) (N := 11) hx hb hts iX4 hown hK hP 10 rfl rfl 2 (by decide) w7 (fun _ h9 => h9) rfl dX4_copyFrom_31 ?_
    refine lv_iconst (v := 0) hx hb dX4_copyFrom_34 (by decide) ?_
    refine lv_aload_n hx hb dX4_copyFrom_35 rfl (lv_at hl 0 rfl) ?_
    refine va_get (D := D) (ci := 4) (v := .ref (a 3)) (C := RX4) (T := TX4) (N := 11) hx hb hts iX4 hown hK hP 0 rfl rfl 2 (by decide) w7 (fun _ h9 => h9) rfl dX4_copyFrom_36 ?_
    refine lv_iconst (v := 0) hx hb dX4_copyFrom_39 (by decide) ?_
    refine lv_bipush (v := 20) hx hb dX4_copyFrom_40 (by decide) ?_
    obtain ⟨P1005, e1006, he⟩ := lt_i he
    refine va_copyi (ty := .int) hx hb (hml.trans hl.1.symm) hown w2 w3 w4 w5 hK hP hD hS 13 3 0 0 rfl rfl rfl rfl rfl (by decide) (by decide) (by decide) (by decide) (by decide) (fun _ _ => rfl) (Nat.le_of_ble_eq_true rfl) (by decide +kernel) dX4_copyFrom_42 (fun H locs hP hD hS => ?_)
    have hP : va_P D vwCl (wCopy k a b P1005 O) H := by rw [e1006]; exact hP
    have hD : va_D _ (wCopy k a b P1005 O) := va_D_adr (by rw [e1006]; rfl) hD
    refine lv_aload_n hx hb dX4_copyFrom_45 rfl (lv_at hl 1 rfl) ?_
    refine va_get (D := D) (ci := 4) (v := .ref (b 4)) (C := RX4) (T := TX4) (N := 11) hx hb hts iX4 hown hK hP 10 rfl rfl 3 (by decide) w8 (fun _ h9 => h9) rfl dX4_copyFrom_46 ?_
    refine lv_iconst (v := 0) hx hb dX4_copyFrom_49 (by decide) ?_
    refine lv_aload_n hx hb dX4_copyFrom_50 rfl (lv_at hl 0 rfl) ?_
    refine va_get (D := D) (ci := 4) (v := .ref (a 4)) (C := RX4) (T := TX4) (N := 11) hx hb hts iX4 hown hK hP 0 rfl rfl 3 (by decide) w8 (fun _ h9 => h9) rfl dX4_copyFrom_51 ?_
    refine lv_iconst (v := 0) hx hb dX4_copyFrom_54 (by decide) ?_
    refine lv_bipush (v := 20) hx hb dX4_copyFrom_55 (by decide) ?_
    obtain ⟨P1007, e1008, he⟩ := lt_i he
    refine va_copyi (ty := .int) hx hb (hml.trans hl.1.symm) hown w2 w3 w4 w5 hK hP hD hS 14 4 0 0 rfl rfl rfl rfl rfl (by decide) (by decide) (by decide) (by decide) (by decide) (fun _ _ => rfl) (Nat.le_of_ble_eq_true rfl) (by decide +kernel) dX4_copyFrom_57 (fun H locs hP hD hS => ?_)
    have hP : va_P D vwCl (wCopy k a b P1007 O) H := by rw [e1008]; exact hP
    have hD : va_D _ (wCopy k a b P1007 O) := va_D_adr (by rw [e1008]; rfl) hD
    refine lv_aload_n hx hb dX4_copyFrom_60 rfl (lv_at hl 1 rfl) ?_
    refine va_get (D := D) (ci := 4) (v := .ref (b 5)) (C := RX4) (T := TX4) (N := 11) hx hb hts iX4 hown hK hP 10 rfl rfl 4 (by decide) w9 (fun _ h9 => h9) rfl dX4_copyFrom_61 ?_
    refine lv_iconst (v := 0) hx hb dX4_copyFrom_64 (by decide) ?_
    refine lv_aload_n hx hb dX4_copyFrom_65 rfl (lv_at hl 0 rfl) ?_
    refine va_get (D := D) (ci := 4) (v := .ref (a 5)) (C := RX4) (T := TX4) (N := 11) hx hb hts iX4 hown hK hP 0 rfl rfl 4 (by decide) w9 (fun _ h9 => h9) rfl dX4_copyFrom_66 ?_
    refine lv_iconst (v := 0) hx hb dX4_copyFrom_69 (by decide) ?_
    refine lv_bipush (v := 20) hx hb dX4_copyFrom_70 (by decide) ?_
    obtain ⟨P1009, e1010, he⟩ := lt_i he
    refine va_copyi (ty := .int) hx hb (hml.trans hl.1.symm) hown w2 w3 w4 w5 hK hP hD hS 15 5 0 0 rfl rfl rfl rfl rfl (by decide) (by decide) (by decide) (by decide) (by decide) (fun _ _ => rfl) (Nat.le_of_ble_eq_true rfl) (by decide +kernel) dX4_copyFrom_72 (fun H locs hP hD hS => ?_)
    have hP : va_P D vwCl (wCopy k a b P1009 O) H := by rw [e1010]; exact hP
    have hD : va_D _ (wCopy k a b P1009 O) := va_D_adr (by rw [e1010]; rfl) hD
    refine lv_aload_n hx hb dX4_copyFrom_75 rfl (lv_at hl 1 rfl) ?_
    refine va_get (D := D) (ci := 4) (v := .ref (b 6)) (C := RX4) (T := TX4) (N := 11) hx hb hts iX4 hown hK hP 10 rfl rfl 5 (by decide) w10 (fun _ h9 => h9) rfl dX4_copyFrom_76 ?_
    refine lv_iconst (v := 0) hx hb dX4_copyFrom_79 (by decide) ?_
    refine lv_aload_n hx hb dX4_copyFrom_80 rfl (lv_at hl 0 rfl) ?_
    refine va_get (D := D) (ci := 4) (v := .ref (a 6)) (C := RX4) (T := TX4) (N := 11) hx hb hts iX4 hown hK hP 0 rfl rfl 5 (by decide) w10 (fun _ h9 => h9) rfl dX4_copyFrom_81 ?_
    refine lv_iconst (v := 0) hx hb dX4_copyFrom_84 (by decide) ?_
    refine lv_bipush (v := 20) hx hb dX4_copyFrom_85 (by decide) ?_
    obtain ⟨P1011, e1012, he⟩ := lt_i he
    refine va_copyi (ty := .int) hx hb (hml.trans hl.1.symm) hown w2 w3 w4 w5 hK hP hD hS 16 6 0 0 rfl rfl rfl rfl rfl (by decide) (by decide) (by decide) (by decide) (by decide) (fun _ _ => rfl) (Nat.le_of_ble_eq_true rfl) (by decide +kernel) dX4_copyFrom_87 (fun H locs hP hD hS => ?_)
    have hP : va_P D vwCl (wCopy k a b P1011 O) H := by rw [e1012]; exact hP
    have hD : va_D _ (wCopy k a b P1011 O) := va_D_adr (by rw [e1012]; rfl) hD
    refine lv_aload_n hx hb dX4_copyFrom_90 rfl (lv_at hl 1 rfl) ?_
    refine va_get (D := D) (ci := 4) (v := .ref (b 7)) (C := RX4) (T := TX4) (N := 11) hx hb hts iX4 hown hK hP 10 rfl rfl 6 (by decide) w11 (fun _ h9 => h9) rfl dX4_copyFrom_91 ?_
    refine lv_iconst (v := 0) hx hb dX4_copyFrom_94 (by decide) ?_
    refine lv_aload_n hx hb dX4_copyFrom_95 rfl (lv_at hl 0 rfl) ?_
    refine va_get (D := D) (ci := 4) (v := .ref (a 7)) (C := RX4) (T := TX4) (N := 11) hx hb hts iX4 hown hK hP 0 rfl rfl 6 (by decide) w11 (fun _ h9 => h9) rfl dX4_copyFrom_96 ?_
    refine lv_iconst (v := 0) hx hb dX4_copyFrom_99 (by decide) ?_
    refine lv_sipush (v := 240) hx hb dX4_copyFrom_100 (by decide) ?_
    obtain ⟨P1013, e1014, he⟩ := lt_i he
    refine va_copyi (ty := .int) hx hb (hml.trans hl.1.symm) hown w2 w3 w4 w5 hK hP hD hS 17 7 0 0 rfl rfl rfl rfl rfl (by decide) (by decide) (by decide) (by decide) (by decide) (fun _ _ => rfl) (Nat.le_of_ble_eq_true rfl) (by decide +kernel) dX4_copyFrom_103 (fun H locs hP hD hS => ?_)
    have hP : va_P D vwCl (wCopy k a b P1013 O) H := by rw [e1014]; exact hP
    have hD : va_D _ (wCopy k a b P1013 O) := va_D_adr (by rw [e1014]; rfl) hD
    refine lv_aload_n hx hb dX4_copyFrom_106 rfl (lv_at hl 1 rfl) ?_
    refine va_get (D := D) (ci := 4) (v := .ref (b 8)) (C := RX4) (T := TX4) (N := 11) hx hb hts iX4 hown hK hP 10 rfl rfl 7 (by decide) w12 (fun _ h9 => h9) rfl dX4_copyFrom_107 ?_
    refine lv_iconst (v := 0) hx hb dX4_copyFrom_110 (by decide) ?_
    refine lv_aload_n hx hb dX4_copyFrom_111 rfl (lv_at hl 0 rfl) ?_
    refine va_get (D := D) (ci := 4) (v := .ref (a 8)) (C := RX4) (T := TX4) (N := 11) hx hb hts iX4 hown hK hP 0 rfl rfl 7 (by decide) w12 (fun _ h9 => h9) rfl dX4_copyFrom_112 ?_
    refine lv_iconst (v := 0) hx hb dX4_copyFrom_115 (by decide) ?_
    refine lv_bipush (v := 96) hx hb dX4_copyFrom_116 (by decide) ?_
    obtain ⟨P1015, e1016, he⟩ := lt_i he
    refine va_copyi (ty := .int) hx hb (hml.trans hl.1.symm) hown w2 w3 w4 w5 hK hP hD hS 18 8 0 0 rfl rfl rfl rfl rfl (by decide) (by decide) (by decide) (by decide) (by decide) (fun _ _ => rfl) (Nat.le_of_ble_eq_true rfl) (by decide +kernel) dX4_copyFrom_118 (fun H locs hP hD hS => ?_)
    have hP : va_P D vwCl (wCopy k a b P1015 O) H := by rw [e1016]; exact hP
    have hD : va_D _ (wCopy k a b P1015 O) := va_D_adr (by rw [e1016]; rfl) hD
    refine lv_aload_n hx hb dX4_copyFrom_121 rfl (lv_at hl 1 rfl) ?_
    refine va_get (D := D) (ci := 4) (v := .ref (b 9)) (C := RX4) (T := TX4) (N := 11) hx hb hts iX4 hown hK hP 10 rfl rfl 8 (by decide) w13 (fun _ h9 => h9) rfl dX4_copyFrom_122 ?_
    refine lv_iconst (v := 0) hx hb dX4_copyFrom_125 (by decide) ?_
    refine lv_aload_n hx hb dX4_copyFrom_126 rfl (lv_at hl 0 rfl) ?_
    refine va_get (D := D) (ci := 4) (v := .ref (a 9)) (C := RX4) (T := TX4) (N := 11) hx hb hts iX4 hown hK hP 0 rfl rfl 8 (by decide) w13 (fun _ h9 => h9) rfl dX4_copyFrom_127 ?_
    refine lv_iconst (v := 0) hx hb dX4_copyFrom_130 (by decide) ?_
    refine lv_bipush (v := 96) hx hb dX4_copyFrom_131 (by decide) ?_
    obtain ⟨P1017, e1018, he⟩ := lt_i he
    refine va_copyi (ty := .int) hx hb (hml.trans hl.1.symm) hown w2 w3 w4 w5 hK hP hD hS 19 9 0 0 rfl rfl rfl rfl rfl (by decide) (by decide) (by decide) (by decide) (by decide) (fun _ _ => rfl) (Nat.le_of_ble_eq_true rfl) (by decide +kernel) dX4_copyFrom_133 (fun H locs hP hD hS => ?_)
    have hP : va_P D vwCl (wCopy k a b P1017 O) H := by rw [e1018]; exact hP
    have hD : va_D _ (wCopy k a b P1017 O) := va_D_adr (by rw [e1018]; rfl) hD
    refine lv_aload_n hx hb dX4_copyFrom_136 rfl (lv_at hl 0 rfl) ?_
    refine lv_aload_n hx hb dX4_copyFrom_137 rfl (lv_at hl 1 rfl) ?_
    refine va_get (D := D) (ci := 4) (v := .int (O 9 0)) (C := RX4) (T := TX4) (N := 11) hx hb hts iX4 hown hK hP 10 rfl rfl 9 (by decide) w14 (fun _ h9 => h9) rfl dX4_copyFrom_138 ?_
    obtain ⟨P1019, e1020, he⟩ := lt_i he
    refine va_put (D := D) (ci := 4) (v := .int (O 9 0)) (ty := .int) (C := RX4) (T := TX4) (N := 11) hx hb hts iX4 tyX4 tyX4_ok nmX4 hown hK hP hD hS 0 rfl rfl 9 (by decide) w14 (fun _ h9 => h9) rfl (by decide +kernel) rfl rfl (Nat.le_of_ble_eq_true rfl) dX4_copyFrom_141 (fun H locs hP hD hS => ?_)
    have hP : va_P D vwCl (wCopy k a b P1019 O) H := by rw [e1020]; exact hP
    have hD : va_D _ (wCopy k a b P1019 O) := va_D_adr (by rw [e1020]; rfl) hD
    refine lv_aload_n hx hb dX4_copyFrom_144 rfl (lv_at hl 0 rfl) ?_
    refine lv_aload_n hx hb dX4_copyFrom_145 rfl (lv_at hl 1 rfl) ?_
    refine va_get (D := D) (ci := 4) (v := .int (O 10 0)) (C := RX4) (T := TX4) (N := 11) hx hb hts iX4 hown hK hP 10 rfl rfl 10 (by decide) w15 (fun _ h9 => h9) rfl dX4_copyFrom_146 ?_
    obtain ⟨P1021, e1022, he⟩ := lt_i he
    refine va_put (D := D) (ci := 4) (v := .int (O 10 0)) (ty := .int) (C := RX4) (T := TX4) (N := 11) hx hb hts iX4 tyX4 tyX4_ok nmX4 hown hK hP hD hS 0 rfl rfl 10 (by decide) w15 (fun _ h9 => h9) rfl (by decide +kernel) rfl rfl (Nat.le_of_ble_eq_true rfl) dX4_copyFrom_149 (fun H locs hP hD hS => ?_)
    have hP : va_P D vwCl (wCopy k a b P1021 O) H := by rw [e1022]; exact hP
    have hD : va_D _ (wCopy k a b P1021 O) := va_D_adr (by rw [e1022]; rfl) hD
    obtain rfl := some1 he
    exact cRv hx hb hr hlk hK hP hD hS dX4_copyFrom_152
  exact key ss.heap [] rfl rfl hP hS
theorem kX4_isHolder : yX4_isHolder.cls = RX4 ∧ yX4_isHolder.cls ≠ "java/lang/invoke/MethodHandle" ∧ yX4_isHolder.cls ≠ "java/lang/invoke/VarHandle" ∧ (parseMethodDescriptor yX4_isHolder.desc).map (fun d => d.parameters.length) = some 1 := by decide +kernel
set_option maxRecDepth 100000 in
set_option maxHeartbeats 4000000 in
theorem mX4_isHolder (l : Launch) (D : va_G) (k : Nat → ClassId) (a : Nat → Nat) {P : Nat → Nat → Int32} {p1 : Int32} {r : Int32}  (he : xX4_isHolder P p1 = some r) : CtI l D k yX4_isHolder wsX4_isHolder ({ frames := 1, cells := 0, slots := 0, locals := 21 } : Room) [.ref (a 0), .int p1] (wPool k a P) r (wPool k a P) := by
  intro sz9
  refine cSt (lv := [(0, .ref (a 0)), (1, .int p1)]) (own := RX4) (cc := cX4_isHolder) (nL := 3) (ret := (some .boolean)) (by decide +kernel) rfl rfl (Nat.le_of_ble_eq_true rfl) rfl ?_
  intro pp ee ss mm bl me co hsz hC0 hP hD hS ls hl
  subst hsz
  obtain ⟨hx, hb, hr, hml, hown, hts, hK, hlk⟩ := hC0
  have hA : ∀ q, ss.heap.size ≤ q → va_A (wPool k a P) ss.heap.size q := fun q h => Or.inr h
  have hS0 := hS
  have key : ∀ (H : Heap) (locs : List Loc), H = ss.heap → locs = [] → va_P D vwCl (wPool k a P) H → va_S (va_A (wPool k a P) ss.heap.size) ss.heap H locs → W pp l ee ({ frames := 1, cells := 0, slots := 0, locals := 21 } : Room) ss mm ([.ref (a 0), .int p1] : List Value).toArray bl me co H locs 0 0 (MQ bl (cQi D k (wPool k a P) ss.heap.size r (wPool k a P)) ([.ref (a 0), .int p1] : List Value).toArray ss 0 0 (va_A (wPool k a P) ss.heap.size)) (F0 mm 0 ls []) := by
    intro H locs _ _ hP hS
    refine lv_aload_n hx hb dX4_isHolder_0 rfl (lv_at hl 0 rfl) ?_
    refine lv_iload_n hx hb dX4_isHolder_1 rfl (lv_at hl 1 rfl) ?_
    obtain ⟨v1001, h1002, he⟩ := bn1_i he
    refine cVir (As := [.int p1]) (rest := []) ⟨hx, hb, hml, hown, hts⟩ hK hA hP hD hS (mX4_kindOf l D k a (P := P) h1002) (cwV 1 hts gX4_isHolder_X4_kindOf rfl rfl rfl kX4_kindOf ⟨Nat.le_of_ble_eq_true rfl, Nat.le_of_ble_eq_true rfl⟩) [0, 1, 2, 3, 4, 5, 6, 7, 8, 9] rfl rfl 0 rfl rfl rfl hl.1 rfl (Nat.le_of_ble_eq_true rfl) ⟨Nat.le_refl 0, Nat.le_refl 0⟩ dX4_isHolder_2 (fun H locs hP hD hS => ?_)
    refine lv_istore_n (lv' := [(2, .int v1001), (0, .ref (a 0)), (1, .int p1)]) hx hb dX4_isHolder_5 rfl hl (by decide) rfl (fun ls hl => ?_)
    refine lv_iload_n hx hb dX4_isHolder_6 rfl (lv_at hl 0 rfl) ?_
    refine lv_iconst (v := (-1)) hx hb dX4_isHolder_7 (by decide) ?_
    refine lv_icmp_eq (tgt := 20) hx hb dX4_isHolder_8 (by decide) (fun c1003 => ?_) (fun c1003 => ?_)
    · have he := ifp he c1003
      refine lv_iconst (v := 0) hx hb dX4_isHolder_20 (by decide) ?_
      obtain rfl := some1 he
      exact cRi hx hb hr hlk hK rfl hP hD hS dX4_isHolder_21
    · have he := ifn he c1003
      refine lv_iload_n hx hb dX4_isHolder_11 rfl (lv_at hl 0 rfl) ?_
      refine lv_iconst (v := 4) hx hb dX4_isHolder_12 (by decide) ?_
      refine lv_icmp_eq (tgt := 20) hx hb dX4_isHolder_13 (by decide) (fun c1004 => ?_) (fun c1004 => ?_)
      · have he := ifp he c1004
        refine lv_iconst (v := 0) hx hb dX4_isHolder_20 (by decide) ?_
        obtain rfl := some1 he
        exact cRi hx hb hr hlk hK rfl hP hD hS dX4_isHolder_21
      · have he := ifn he c1004
        refine lv_iconst (v := 1) hx hb dX4_isHolder_16 (by decide) ?_
        refine lv_goto (tgt := 21) hx hb dX4_isHolder_17 (by decide) ?_
        obtain rfl := some1 he
        exact cRi hx hb hr hlk hK rfl hP hD hS dX4_isHolder_21
  exact key ss.heap [] rfl rfl hP hS
theorem kX4_refusalAsHolder : yX4_refusalAsHolder.cls = RX4 ∧ yX4_refusalAsHolder.cls ≠ "java/lang/invoke/MethodHandle" ∧ yX4_refusalAsHolder.cls ≠ "java/lang/invoke/VarHandle" ∧ (parseMethodDescriptor yX4_refusalAsHolder.desc).map (fun d => d.parameters.length) = some 1 := by decide +kernel
set_option maxRecDepth 100000 in
set_option maxHeartbeats 4000000 in
theorem mX4_refusalAsHolder (l : Launch) (D : va_G) (k : Nat → ClassId) (a : Nat → Nat) {P : Nat → Nat → Int32} {p1 : Int32} {r : Int32}  (he : xX4_refusalAsHolder P p1 = some r) : CtI l D k yX4_refusalAsHolder wsX4_refusalAsHolder ({ frames := 1, cells := 0, slots := 0, locals := 21 } : Room) [.ref (a 0), .int p1] (wPool k a P) r (wPool k a P) := by
  intro sz9
  refine cSt (lv := [(0, .ref (a 0)), (1, .int p1)]) (own := RX4) (cc := cX4_refusalAsHolder) (nL := 3) (ret := (some .int)) (by decide +kernel) rfl rfl (Nat.le_of_ble_eq_true rfl) rfl ?_
  intro pp ee ss mm bl me co hsz hC0 hP hD hS ls hl
  subst hsz
  obtain ⟨hx, hb, hr, hml, hown, hts, hK, hlk⟩ := hC0
  have hA : ∀ q, ss.heap.size ≤ q → va_A (wPool k a P) ss.heap.size q := fun q h => Or.inr h
  have hS0 := hS
  have key : ∀ (H : Heap) (locs : List Loc), H = ss.heap → locs = [] → va_P D vwCl (wPool k a P) H → va_S (va_A (wPool k a P) ss.heap.size) ss.heap H locs → W pp l ee ({ frames := 1, cells := 0, slots := 0, locals := 21 } : Room) ss mm ([.ref (a 0), .int p1] : List Value).toArray bl me co H locs 0 0 (MQ bl (cQi D k (wPool k a P) ss.heap.size r (wPool k a P)) ([.ref (a 0), .int p1] : List Value).toArray ss 0 0 (va_A (wPool k a P) ss.heap.size)) (F0 mm 0 ls []) := by
    intro H locs _ _ hP hS
    refine lv_aload_n hx hb dX4_refusalAsHolder_0 rfl (lv_at hl 0 rfl) ?_
    refine lv_iload_n hx hb dX4_refusalAsHolder_1 rfl (lv_at hl 1 rfl) ?_
    obtain ⟨v1001, h1002, he⟩ := bn1_i he
    refine cVir (As := [.int p1]) (rest := []) ⟨hx, hb, hml, hown, hts⟩ hK hA hP hD hS (mX4_refusalOfNumber l D k a (P := P) h1002) (cwV 1 hts gX4_refusalAsHolder_X4_refusalOfNumber rfl rfl rfl kX4_refusalOfNumber ⟨Nat.le_of_ble_eq_true rfl, Nat.le_of_ble_eq_true rfl⟩) [0, 1, 2, 3, 4, 5, 6, 7, 8, 9] rfl rfl 0 rfl rfl rfl hl.1 rfl (Nat.le_of_ble_eq_true rfl) ⟨Nat.le_refl 0, Nat.le_refl 0⟩ dX4_refusalAsHolder_2 (fun H locs hP hD hS => ?_)
    refine lv_istore_n (lv' := [(2, .int v1001), (0, .ref (a 0)), (1, .int p1)]) hx hb dX4_refusalAsHolder_5 rfl hl (by decide) rfl (fun ls hl => ?_)
    refine lv_iload_n hx hb dX4_refusalAsHolder_6 rfl (lv_at hl 0 rfl) ?_
    refine lv_if_eq (tgt := 12) hx hb dX4_refusalAsHolder_7 (by decide) (fun c1003 => ?_) (fun c1003 => ?_)
    · have he := ifp he c1003
      refine lv_aload_n hx hb dX4_refusalAsHolder_12 rfl (lv_at hl 1 rfl) ?_
      refine lv_iload_n hx hb dX4_refusalAsHolder_13 rfl (lv_at hl 2 rfl) ?_
      obtain ⟨v1004, h1005, he⟩ := bn1_i he
      refine cVir (As := [.int p1]) (rest := []) ⟨hx, hb, hml, hown, hts⟩ hK hA hP hD hS (mX4_kindOf l D k a (P := P) h1005) (cwV 1 hts gX4_refusalAsHolder_X4_kindOf rfl rfl rfl kX4_kindOf ⟨Nat.le_of_ble_eq_true rfl, Nat.le_of_ble_eq_true rfl⟩) [0, 1, 2, 3, 4, 5, 6, 7, 8, 9] rfl rfl 0 rfl rfl rfl hl.1 rfl (Nat.le_of_ble_eq_true rfl) ⟨Nat.le_refl 0, Nat.le_refl 0⟩ dX4_refusalAsHolder_14 (fun H locs hP hD hS => ?_)
      refine lv_iconst (v := 4) hx hb dX4_refusalAsHolder_17 (by decide) ?_
      refine lv_icmp_ne (tgt := 26) hx hb dX4_refusalAsHolder_18 (by decide) (fun c1006 => ?_) (fun c1006 => ?_)
      · have he := ifn he c1006
        refine lv_iconst (v := 0) hx hb dX4_refusalAsHolder_26 (by decide) ?_
        obtain rfl := some1 he
        exact cRi hx hb hr hlk hK rfl hP hD hS dX4_refusalAsHolder_27
      · have he := ifp he c1006
        refine lv_bipush (v := (-13)) hx hb dX4_refusalAsHolder_21 (by decide) ?_
        refine lv_goto (tgt := 27) hx hb dX4_refusalAsHolder_23 (by decide) ?_
        obtain rfl := some1 he
        exact cRi hx hb hr hlk hK rfl hP hD hS dX4_refusalAsHolder_27
    · have he := ifn he c1003
      refine lv_iload_n hx hb dX4_refusalAsHolder_10 rfl (lv_at hl 0 rfl) ?_
      obtain rfl := some1 he
      exact cRi hx hb hr hlk hK rfl hP hD hS dX4_refusalAsHolder_11
  exact key ss.heap [] rfl rfl hP hS
theorem kX4_thingCount : yX4_thingCount.cls = RX4 ∧ yX4_thingCount.cls ≠ "java/lang/invoke/MethodHandle" ∧ yX4_thingCount.cls ≠ "java/lang/invoke/VarHandle" ∧ (parseMethodDescriptor yX4_thingCount.desc).map (fun d => d.parameters.length) = some 0 := by decide +kernel
set_option maxRecDepth 100000 in
set_option maxHeartbeats 4000000 in
theorem mX4_thingCount (l : Launch) (D : va_G) (k : Nat → ClassId) (a : Nat → Nat) {P : Nat → Nat → Int32}  {r : Int32}  (he : xX4_thingCount P = some r) : CtI l D k yX4_thingCount wsX4_thingCount ({ frames := 0, cells := 0, slots := 0, locals := 0 } : Room) [.ref (a 0)] (wPool k a P) r (wPool k a P) := by
  intro sz9
  refine cSt (lv := [(0, .ref (a 0))]) (own := RX4) (cc := cX4_thingCount) (nL := 3) (ret := (some .int)) (by decide +kernel) rfl rfl (Nat.le_of_ble_eq_true rfl) rfl ?_
  intro pp ee ss mm bl me co hsz hC0 hP hD hS ls hl
  subst hsz
  obtain ⟨hx, hb, hr, hml, hown, hts, hK, hlk⟩ := hC0
  have hA : ∀ q, ss.heap.size ≤ q → va_A (wPool k a P) ss.heap.size q := fun q h => Or.inr h
  have iX4 : ∀ w ∈ wsX40, w ∈ wsX4_thingCount := fun _ h => List.mem_cons_of_mem _ (List.mem_append_right _ h)
  have w1 := hts (.fieldLink RX4 9 "DeadListPool$Pool" "kind" "[I") (List.mem_of_getElem? (i := 1) rfl)
  have B4 : ∀ (n4 : Nat) (x1 : Int32) (x2 : Int32), xX4_thingCount_4 P n4 x1 x2 = some r → ∀ (H : Heap) (locs : List Loc), va_P D vwCl (wPool k a P) H → va_D (va_A (wPool k a P) ss.heap.size) (wPool k a P) → va_S (va_A (wPool k a P) ss.heap.size) ss.heap H locs → ∀ ls : Array Slot, lv_has ls 3 [(0, .ref (a 0)), (1, .int x1), (2, .int x2)] → W pp l ee ({ frames := 0, cells := 0, slots := 0, locals := 0 } : Room) ss mm ([.ref (a 0)] : List Value).toArray bl me co H locs 0 0 (MQ bl (cQi D k (wPool k a P) ss.heap.size r (wPool k a P)) ([.ref (a 0)] : List Value).toArray ss 0 0 (va_A (wPool k a P) ss.heap.size)) (F0 mm 4 ls []) := by
    intro n4
    induction n4 with
    | zero =>
      intro x1 x2 he
      exact absurd (show (none : Option (Int32)) = some r from he) (by simp)
    | succ n4 ih4 =>
      intro x1 x2 he H locs hP hD hS ls hl
      refine lv_iload_n hx hb dX4_thingCount_4 rfl (lv_at hl 2 rfl) ?_
      refine lv_bipush (v := 20) hx hb dX4_thingCount_5 (by decide) ?_
      refine lv_icmp_ge (tgt := 29) hx hb dX4_thingCount_7 (by decide) (fun c1 => ?_) (fun c1 => ?_)
      · have he := ifp he c1
        refine lv_iload_n hx hb dX4_thingCount_29 rfl (lv_at hl 1 rfl) ?_
        obtain rfl := some1 he
        exact cRi hx hb hr hlk hK rfl hP hD hS dX4_thingCount_30
      · have he := ifn he c1
        refine lv_aload_n hx hb dX4_thingCount_10 rfl (lv_at hl 0 rfl) ?_
        refine va_get (D := D) (ci := 4) (v := .ref (a 1)) (C := RX4) (T := TX4) (N := 11) hx hb hts iX4 hown hK hP 0 rfl rfl 0 (by decide) w1 (fun _ h9 => h9) rfl dX4_thingCount_11 ?_
        refine lv_iload_n hx hb dX4_thingCount_14 rfl (lv_at hl 2 rfl) ?_
        obtain ⟨h2, he⟩ := grd_i he
        refine va_iald hx hb hK hP 1 0 rfl rfl (ix_in h2) dX4_thingCount_15 ?_
        refine lv_iconst (v := (-1)) hx hb dX4_thingCount_16 (by decide) ?_
        refine lv_icmp_eq (tgt := 23) hx hb dX4_thingCount_17 (by decide) (fun c3 => ?_) (fun c3 => ?_)
        · have he := ifp he c3
          refine lv_iinc (v := (x2 + 1)) (lv' := [(2, .int (x2 + 1)), (0, .ref (a 0)), (1, .int x1)]) hx hb dX4_thingCount_23 hl (k := 2) rfl rfl (by decide) rfl (fun ls hl => ?_)
          refine lv_goto (tgt := 4) hx hb dX4_thingCount_26 (by decide) ?_
          exact ih4 x1 (x2 + 1) he H locs hP hD hS ls (lv_sub hl [1, 2, 0] rfl)
        · have he := ifn he c3
          refine lv_iinc (v := (x1 + 1)) (lv' := [(1, .int (x1 + 1)), (0, .ref (a 0)), (2, .int x2)]) hx hb dX4_thingCount_20 hl (k := 1) rfl rfl (by decide) rfl (fun ls hl => ?_)
          refine lv_iinc (v := (x2 + 1)) (lv' := [(2, .int (x2 + 1)), (1, .int (x1 + 1)), (0, .ref (a 0))]) hx hb dX4_thingCount_23 hl (k := 2) rfl rfl (by decide) rfl (fun ls hl => ?_)
          refine lv_goto (tgt := 4) hx hb dX4_thingCount_26 (by decide) ?_
          exact ih4 (x1 + 1) (x2 + 1) he H locs hP hD hS ls (lv_sub hl [2, 1, 0] rfl)
  have hS0 := hS
  have key : ∀ (H : Heap) (locs : List Loc), H = ss.heap → locs = [] → va_P D vwCl (wPool k a P) H → va_S (va_A (wPool k a P) ss.heap.size) ss.heap H locs → W pp l ee ({ frames := 0, cells := 0, slots := 0, locals := 0 } : Room) ss mm ([.ref (a 0)] : List Value).toArray bl me co H locs 0 0 (MQ bl (cQi D k (wPool k a P) ss.heap.size r (wPool k a P)) ([.ref (a 0)] : List Value).toArray ss 0 0 (va_A (wPool k a P) ss.heap.size)) (F0 mm 0 ls []) := by
    intro H locs _ _ hP hS
    refine lv_iconst (v := 0) hx hb dX4_thingCount_0 (by decide) ?_
    refine lv_istore_n (lv' := [(1, .int 0), (0, .ref (a 0))]) hx hb dX4_thingCount_1 rfl hl (by decide) rfl (fun ls hl => ?_)
    refine lv_iconst (v := 0) hx hb dX4_thingCount_2 (by decide) ?_
    refine lv_istore_n (lv' := [(2, .int 0), (1, .int 0), (0, .ref (a 0))]) hx hb dX4_thingCount_3 rfl hl (by decide) rfl (fun ls hl => ?_)
    exact B4 600 0 0 he H locs hP hD hS ls (lv_sub hl [2, 1, 0] rfl)
  exact key ss.heap [] rfl rfl hP hS
theorem kX4_blockCount : yX4_blockCount.cls = RX4 ∧ yX4_blockCount.cls ≠ "java/lang/invoke/MethodHandle" ∧ yX4_blockCount.cls ≠ "java/lang/invoke/VarHandle" ∧ (parseMethodDescriptor yX4_blockCount.desc).map (fun d => d.parameters.length) = some 0 := by decide +kernel
set_option maxRecDepth 100000 in
set_option maxHeartbeats 4000000 in
theorem mX4_blockCount (l : Launch) (D : va_G) (k : Nat → ClassId) (a : Nat → Nat) {P : Nat → Nat → Int32}  {r : Int32}  (he : xX4_blockCount P = some r) : CtI l D k yX4_blockCount wsX4_blockCount ({ frames := 0, cells := 0, slots := 0, locals := 0 } : Room) [.ref (a 0)] (wPool k a P) r (wPool k a P) := by
  intro sz9
  refine cSt (lv := [(0, .ref (a 0))]) (own := RX4) (cc := cX4_blockCount) (nL := 3) (ret := (some .int)) (by decide +kernel) rfl rfl (Nat.le_of_ble_eq_true rfl) rfl ?_
  intro pp ee ss mm bl me co hsz hC0 hP hD hS ls hl
  subst hsz
  obtain ⟨hx, hb, hr, hml, hown, hts, hK, hlk⟩ := hC0
  have hA : ∀ q, ss.heap.size ≤ q → va_A (wPool k a P) ss.heap.size q := fun q h => Or.inr h
  have iX4 : ∀ w ∈ wsX40, w ∈ wsX4_blockCount := fun _ h => List.mem_cons_of_mem _ (List.mem_append_right _ h)
  have w1 := hts (.fieldLink RX4 33 "DeadListPool$Pool" "size" "[I") (List.mem_of_getElem? (i := 1) rfl)
  have B4 : ∀ (n4 : Nat) (x1 : Int32) (x2 : Int32), xX4_blockCount_4 P n4 x1 x2 = some r → ∀ (H : Heap) (locs : List Loc), va_P D vwCl (wPool k a P) H → va_D (va_A (wPool k a P) ss.heap.size) (wPool k a P) → va_S (va_A (wPool k a P) ss.heap.size) ss.heap H locs → ∀ ls : Array Slot, lv_has ls 3 [(0, .ref (a 0)), (1, .int x1), (2, .int x2)] → W pp l ee ({ frames := 0, cells := 0, slots := 0, locals := 0 } : Room) ss mm ([.ref (a 0)] : List Value).toArray bl me co H locs 0 0 (MQ bl (cQi D k (wPool k a P) ss.heap.size r (wPool k a P)) ([.ref (a 0)] : List Value).toArray ss 0 0 (va_A (wPool k a P) ss.heap.size)) (F0 mm 4 ls []) := by
    intro n4
    induction n4 with
    | zero =>
      intro x1 x2 he
      exact absurd (show (none : Option (Int32)) = some r from he) (by simp)
    | succ n4 ih4 =>
      intro x1 x2 he H locs hP hD hS ls hl
      refine lv_iload_n hx hb dX4_blockCount_4 rfl (lv_at hl 2 rfl) ?_
      refine lv_bipush (v := 96) hx hb dX4_blockCount_5 (by decide) ?_
      refine lv_icmp_ge (tgt := 28) hx hb dX4_blockCount_7 (by decide) (fun c1 => ?_) (fun c1 => ?_)
      · have he := ifp he c1
        refine lv_iload_n hx hb dX4_blockCount_28 rfl (lv_at hl 1 rfl) ?_
        obtain rfl := some1 he
        exact cRi hx hb hr hlk hK rfl hP hD hS dX4_blockCount_29
      · have he := ifn he c1
        refine lv_aload_n hx hb dX4_blockCount_10 rfl (lv_at hl 0 rfl) ?_
        refine va_get (D := D) (ci := 4) (v := .ref (a 8)) (C := RX4) (T := TX4) (N := 11) hx hb hts iX4 hown hK hP 0 rfl rfl 7 (by decide) w1 (fun _ h9 => h9) rfl dX4_blockCount_11 ?_
        refine lv_iload_n hx hb dX4_blockCount_14 rfl (lv_at hl 2 rfl) ?_
        obtain ⟨h2, he⟩ := grd_i he
        refine va_iald hx hb hK hP 8 0 rfl rfl (ix_in h2) dX4_blockCount_15 ?_
        refine lv_if_eq (tgt := 22) hx hb dX4_blockCount_16 (by decide) (fun c3 => ?_) (fun c3 => ?_)
        · have he := ifp he c3
          refine lv_iinc (v := (x2 + 1)) (lv' := [(2, .int (x2 + 1)), (0, .ref (a 0)), (1, .int x1)]) hx hb dX4_blockCount_22 hl (k := 2) rfl rfl (by decide) rfl (fun ls hl => ?_)
          refine lv_goto (tgt := 4) hx hb dX4_blockCount_25 (by decide) ?_
          exact ih4 x1 (x2 + 1) he H locs hP hD hS ls (lv_sub hl [1, 2, 0] rfl)
        · have he := ifn he c3
          refine lv_iinc (v := (x1 + 1)) (lv' := [(1, .int (x1 + 1)), (0, .ref (a 0)), (2, .int x2)]) hx hb dX4_blockCount_19 hl (k := 1) rfl rfl (by decide) rfl (fun ls hl => ?_)
          refine lv_iinc (v := (x2 + 1)) (lv' := [(2, .int (x2 + 1)), (1, .int (x1 + 1)), (0, .ref (a 0))]) hx hb dX4_blockCount_22 hl (k := 2) rfl rfl (by decide) rfl (fun ls hl => ?_)
          refine lv_goto (tgt := 4) hx hb dX4_blockCount_25 (by decide) ?_
          exact ih4 (x1 + 1) (x2 + 1) he H locs hP hD hS ls (lv_sub hl [2, 1, 0] rfl)
  have hS0 := hS
  have key : ∀ (H : Heap) (locs : List Loc), H = ss.heap → locs = [] → va_P D vwCl (wPool k a P) H → va_S (va_A (wPool k a P) ss.heap.size) ss.heap H locs → W pp l ee ({ frames := 0, cells := 0, slots := 0, locals := 0 } : Room) ss mm ([.ref (a 0)] : List Value).toArray bl me co H locs 0 0 (MQ bl (cQi D k (wPool k a P) ss.heap.size r (wPool k a P)) ([.ref (a 0)] : List Value).toArray ss 0 0 (va_A (wPool k a P) ss.heap.size)) (F0 mm 0 ls []) := by
    intro H locs _ _ hP hS
    refine lv_iconst (v := 0) hx hb dX4_blockCount_0 (by decide) ?_
    refine lv_istore_n (lv' := [(1, .int 0), (0, .ref (a 0))]) hx hb dX4_blockCount_1 rfl hl (by decide) rfl (fun ls hl => ?_)
    refine lv_iconst (v := 0) hx hb dX4_blockCount_2 (by decide) ?_
    refine lv_istore_n (lv' := [(2, .int 0), (1, .int 0), (0, .ref (a 0))]) hx hb dX4_blockCount_3 rfl hl (by decide) rfl (fun ls hl => ?_)
    exact B4 600 0 0 he H locs hP hD hS ls (lv_sub hl [2, 1, 0] rfl)
  exact key ss.heap [] rfl rfl hP hS
theorem kX4_sizeOfAll : yX4_sizeOfAll.cls = RX4 ∧ yX4_sizeOfAll.cls ≠ "java/lang/invoke/MethodHandle" ∧ yX4_sizeOfAll.cls ≠ "java/lang/invoke/VarHandle" ∧ (parseMethodDescriptor yX4_sizeOfAll.desc).map (fun d => d.parameters.length) = some 0 := by decide +kernel
set_option maxRecDepth 100000 in
set_option maxHeartbeats 4000000 in
theorem mX4_sizeOfAll (l : Launch) (D : va_G) (k : Nat → ClassId) (a : Nat → Nat) {P : Nat → Nat → Int32}  {r : Int64}  (he : xX4_sizeOfAll P = some r) : CtL l D k yX4_sizeOfAll wsX4_sizeOfAll ({ frames := 0, cells := 0, slots := 0, locals := 0 } : Room) [.ref (a 0)] (wPool k a P) r (wPool k a P) := by
  intro sz9
  refine cSt (lv := [(0, .ref (a 0))]) (own := RX4) (cc := cX4_sizeOfAll) (nL := 4) (ret := (some .long)) (by decide +kernel) rfl rfl (Nat.le_of_ble_eq_true rfl) rfl ?_
  intro pp ee ss mm bl me co hsz hC0 hP hD hS ls hl
  subst hsz
  obtain ⟨hx, hb, hr, hml, hown, hts, hK, hlk⟩ := hC0
  have hA : ∀ q, ss.heap.size ≤ q → va_A (wPool k a P) ss.heap.size q := fun q h => Or.inr h
  have iX4 : ∀ w ∈ wsX40, w ∈ wsX4_sizeOfAll := fun _ h => List.mem_cons_of_mem _ (List.mem_append_right _ h)
  have w1 := hts (.fieldLink RX4 33 "DeadListPool$Pool" "size" "[I") (List.mem_of_getElem? (i := 1) rfl)
  have B4 : ∀ (n4 : Nat) (x1 : Int64) (x3 : Int32), xX4_sizeOfAll_4 P n4 x1 x3 = some r → ∀ (H : Heap) (locs : List Loc), va_P D vwCl (wPool k a P) H → va_D (va_A (wPool k a P) ss.heap.size) (wPool k a P) → va_S (va_A (wPool k a P) ss.heap.size) ss.heap H locs → ∀ ls : Array Slot, lv_has ls 4 [(0, .ref (a 0)), (1, .long x1), (3, .int x3)] → W pp l ee ({ frames := 0, cells := 0, slots := 0, locals := 0 } : Room) ss mm ([.ref (a 0)] : List Value).toArray bl me co H locs 0 0 (MQ bl (cQl D k (wPool k a P) ss.heap.size r (wPool k a P)) ([.ref (a 0)] : List Value).toArray ss 0 0 (va_A (wPool k a P) ss.heap.size)) (F0 mm 4 ls []) := by
    intro n4
    induction n4 with
    | zero =>
      intro x1 x3 he
      exact absurd (show (none : Option (Int64)) = some r from he) (by simp)
    | succ n4 ih4 =>
      intro x1 x3 he H locs hP hD hS ls hl
      refine lv_iload_n hx hb dX4_sizeOfAll_4 rfl (lv_at hl 2 rfl) ?_
      refine lv_bipush (v := 96) hx hb dX4_sizeOfAll_5 (by decide) ?_
      refine lv_icmp_ge (tgt := 26) hx hb dX4_sizeOfAll_7 (by decide) (fun c1 => ?_) (fun c1 => ?_)
      · have he := ifp he c1
        refine lv_lload_n hx hb dX4_sizeOfAll_26 rfl (lv_at hl 1 rfl) ?_
        obtain rfl := some1 he
        exact cRl hx hb hr hlk hK hP hD hS dX4_sizeOfAll_27
      · have he := ifn he c1
        refine lv_lload_n hx hb dX4_sizeOfAll_10 rfl (lv_at hl 1 rfl) ?_
        refine lv_aload_n hx hb dX4_sizeOfAll_11 rfl (lv_at hl 0 rfl) ?_
        refine va_get (D := D) (ci := 4) (v := .ref (a 8)) (C := RX4) (T := TX4) (N := 11) hx hb hts iX4 hown hK hP 0 rfl rfl 7 (by decide) w1 (fun _ h9 => h9) rfl dX4_sizeOfAll_12 ?_
        refine lv_iload_n hx hb dX4_sizeOfAll_15 rfl (lv_at hl 2 rfl) ?_
        obtain ⟨h2, he⟩ := grd_i he
        refine va_iald hx hb hK hP 8 0 rfl rfl (ix_in h2) dX4_sizeOfAll_16 ?_
        refine lv_i2l (v := (Int32.toInt64 (P 7 (Int32.toNatClampNeg x3)))) hx hb dX4_sizeOfAll_17 rfl ?_
        refine lv_ladd hx hb dX4_sizeOfAll_18 ?_
        refine lv_lstore_n (lv' := [(1, .long (x1 + (Int32.toInt64 (P 7 (Int32.toNatClampNeg x3))))), (0, .ref (a 0)), (3, .int x3)]) hx hb dX4_sizeOfAll_19 rfl hl (by decide) rfl (fun ls hl => ?_)
        refine lv_iinc (v := (x3 + 1)) (lv' := [(3, .int (x3 + 1)), (1, .long (x1 + (Int32.toInt64 (P 7 (Int32.toNatClampNeg x3))))), (0, .ref (a 0))]) hx hb dX4_sizeOfAll_20 hl (k := 2) rfl rfl (by decide) rfl (fun ls hl => ?_)
        refine lv_goto (tgt := 4) hx hb dX4_sizeOfAll_23 (by decide) ?_
        exact ih4 (x1 + (Int32.toInt64 (P 7 (Int32.toNatClampNeg x3)))) (x3 + 1) he H locs hP hD hS ls (lv_sub hl [2, 1, 0] rfl)
  have hS0 := hS
  have key : ∀ (H : Heap) (locs : List Loc), H = ss.heap → locs = [] → va_P D vwCl (wPool k a P) H → va_S (va_A (wPool k a P) ss.heap.size) ss.heap H locs → W pp l ee ({ frames := 0, cells := 0, slots := 0, locals := 0 } : Room) ss mm ([.ref (a 0)] : List Value).toArray bl me co H locs 0 0 (MQ bl (cQl D k (wPool k a P) ss.heap.size r (wPool k a P)) ([.ref (a 0)] : List Value).toArray ss 0 0 (va_A (wPool k a P) ss.heap.size)) (F0 mm 0 ls []) := by
    intro H locs _ _ hP hS
    refine lv_lconst (v := 0) hx hb dX4_sizeOfAll_0 (by decide) ?_
    refine lv_lstore_n (lv' := [(1, .long 0), (0, .ref (a 0))]) hx hb dX4_sizeOfAll_1 rfl hl (by decide) rfl (fun ls hl => ?_)
    refine lv_iconst (v := 0) hx hb dX4_sizeOfAll_2 (by decide) ?_
    refine lv_istore_n (lv' := [(3, .int 0), (1, .long 0), (0, .ref (a 0))]) hx hb dX4_sizeOfAll_3 rfl hl (by decide) rfl (fun ls hl => ?_)
    exact B4 600 0 0 he H locs hP hD hS ls (lv_sub hl [2, 1, 0] rfl)
  exact key ss.heap [] rfl rfl hP hS
theorem kX4_freedCount : yX4_freedCount.cls = RX4 ∧ yX4_freedCount.cls ≠ "java/lang/invoke/MethodHandle" ∧ yX4_freedCount.cls ≠ "java/lang/invoke/VarHandle" ∧ (parseMethodDescriptor yX4_freedCount.desc).map (fun d => d.parameters.length) = some 0 := by decide +kernel
set_option maxRecDepth 100000 in
set_option maxHeartbeats 4000000 in
theorem mX4_freedCount (l : Launch) (D : va_G) (k : Nat → ClassId) (a : Nat → Nat) {P : Nat → Nat → Int32}  {r : Int32}  (he : xX4_freedCount P = some r) : CtI l D k yX4_freedCount wsX4_freedCount ({ frames := 0, cells := 0, slots := 0, locals := 0 } : Room) [.ref (a 0)] (wPool k a P) r (wPool k a P) := by
  intro sz9
  refine cSt (lv := [(0, .ref (a 0))]) (own := RX4) (cc := cX4_freedCount) (nL := 1) (ret := (some .int)) (by decide +kernel) rfl rfl (Nat.le_of_ble_eq_true rfl) rfl ?_
  intro pp ee ss mm bl me co hsz hC0 hP hD hS ls hl
  subst hsz
  obtain ⟨hx, hb, hr, hml, hown, hts, hK, hlk⟩ := hC0
  have hA : ∀ q, ss.heap.size ≤ q → va_A (wPool k a P) ss.heap.size q := fun q h => Or.inr h
  have iX4 : ∀ w ∈ wsX40, w ∈ wsX4_freedCount := fun _ h => List.mem_cons_of_mem _ (List.mem_append_right _ h)
  have w1 := hts (.fieldLink RX4 43 "DeadListPool$Pool" "freed" "I") (List.mem_of_getElem? (i := 1) rfl)
  have hS0 := hS
  have key : ∀ (H : Heap) (locs : List Loc), H = ss.heap → locs = [] → va_P D vwCl (wPool k a P) H → va_S (va_A (wPool k a P) ss.heap.size) ss.heap H locs → W pp l ee ({ frames := 0, cells := 0, slots := 0, locals := 0 } : Room) ss mm ([.ref (a 0)] : List Value).toArray bl me co H locs 0 0 (MQ bl (cQi D k (wPool k a P) ss.heap.size r (wPool k a P)) ([.ref (a 0)] : List Value).toArray ss 0 0 (va_A (wPool k a P) ss.heap.size)) (F0 mm 0 ls []) := by
    intro H locs _ _ hP hS
    refine lv_aload_n hx hb dX4_freedCount_0 rfl (lv_at hl 0 rfl) ?_
    refine va_get (D := D) (ci := 4) (v := .int (P 10 0)) (C := RX4) (T := TX4) (N := 11) hx hb hts iX4 hown hK hP 0 rfl rfl 10 (by decide) w1 (fun _ h9 => h9) rfl dX4_freedCount_1 ?_
    obtain rfl := some1 he
    exact cRi hx hb hr hlk hK rfl hP hD hS dX4_freedCount_4
  exact key ss.heap [] rfl rfl hP hS
