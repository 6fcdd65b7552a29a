theorem kX0_addFiles : yX0_addFiles.cls = RX0 ∧ yX0_addFiles.cls ≠ "java/lang/invoke/MethodHandle" ∧ yX0_addFiles.cls ≠ "java/lang/invoke/VarHandle" ∧ (parseMethodDescriptor yX0_addFiles.desc).map (fun d => d.parameters.length) = some 1 := by decide +kernel
set_option maxRecDepth 100000 in
set_option maxHeartbeats 4000000 in
theorem mX0_addFiles (l : Launch) (D : va_G) (k : Nat → ClassId) (b : Nat) (a : Nat → Nat) {P_0 : Nat → Nat → Int32} {p1 : Int32} {r : Int32} {P' : Nat → Nat → Int32} (he : xX0_addFiles P_0 p1 = some (r, P')) : CtI l D k yX0_addFiles wsX0_addFiles ({ frames := 1, cells := 0, slots := 0, locals := 23 } : Room) [.ref b, .int p1] (wActs k b a P_0) r (wActs k b a P') := by
  intro sz9
  refine cSt (lv := [(0, .ref b), (1, .int p1)]) (own := RX0) (cc := cX0_addFiles) (nL := 3) (ret := (some .int)) (by decide +kernel) rfl rfl (Nat.le_of_ble_eq_true rfl) rfl ?_
  intro pp ee ss mm bl me co hsz hC0 hP hD hS ls hl
  subst hsz
  obtain ⟨hx, hb, hr, hml, hown, hts, hK, hlk⟩ := hC0
  have hA : ∀ q, ss.heap.size ≤ q → va_A (wActs k b a P_0) ss.heap.size q := fun q h => Or.inr h
  have iX0 : ∀ w ∈ wsX00, w ∈ wsX0_addFiles := fun _ h => List.mem_cons_of_mem _ (List.mem_append_left _ (List.mem_append_right _ h))
  have w2 := hts (.fieldLink RX0 9 "DeadListPool$Acts" "pool" "LDeadListPool$Pool;") (List.mem_of_getElem? (i := 2) rfl)
  have w1 := hts (.constant RX0 15 (1000000000)) (List.mem_of_getElem? (i := 1) rfl)
  have B28 : ∀ (x1 : Int32) (y1 : Int32) (P : Nat → Nat → Int32), xX0_addFiles_28 x1 y1 P = some (r, P') → ∀ (H : Heap) (locs : List Loc), va_P D vwCl (wActs k b a P) H → va_D (va_A (wActs k b a P_0) ss.heap.size) (wActs k b a P) → va_S (va_A (wActs k b a P_0) ss.heap.size) ss.heap H locs → ∀ ls : Array Slot, lv_has ls 3 [(0, .ref b), (1, .int x1)] → W pp l ee ({ frames := 1, cells := 0, slots := 0, locals := 23 } : Room) ss mm ([.ref b, .int p1] : List Value).toArray bl me co H locs 0 0 (MQ bl (cQi D k (wActs k b a P_0) ss.heap.size r (wActs k b a P')) ([.ref b, .int p1] : List Value).toArray ss 0 0 (va_A (wActs k b a P_0) ss.heap.size)) (F0 mm 28 ls [.int y1, .ref (a 0)]) := by
    intro x1 y1 P he H locs hP hD hS ls hl
    refine lv_aload_n hx hb dX0_addFiles_28 rfl (lv_at hl 0 rfl) ?_
    refine va_get (D := D) (ci := 0) (v := .ref (a 0)) (C := RX0) (T := TX0) (N := 1) hx hb hts iX0 hown hK hP 0 rfl rfl 0 (by decide) w2 (fun _ h9 => h9) rfl dX0_addFiles_29 ?_
    obtain ⟨v1, h2, he⟩ := bn1_i he
    refine cVir (As := []) (rest := [.int y1, .ref (a 0)]) ⟨hx, hb, hml, hown, hts⟩ hK hA hP hD hS (mX4_now l D k a (P := P) h2) (cwV 0 hts gX0_addFiles_X4_now rfl rfl rfl kX4_now ⟨Nat.le_of_ble_eq_true rfl, Nat.le_of_ble_eq_true rfl⟩) [1, 2, 3, 4, 5, 6, 7, 8, 9, 10] rfl rfl 0 rfl rfl rfl hl.1 rfl (Nat.le_of_ble_eq_true rfl) ⟨Nat.le_refl 0, Nat.le_refl 0⟩ dX0_addFiles_32 (fun H locs hP hD hS => ?_)
    obtain ⟨v3, P4, h5, he⟩ := bn2_i he
    refine cVi (wf := (wActs k b a P4)) (As := [.int y1, .int v1]) (rest := []) ⟨hx, hb, hml, hown, hts⟩ hK hA hP hD hS (mX4_newThing l D k a (P_0 := P) h5) (cwV 2 hts gX0_addFiles_X4_newThing rfl rfl rfl kX4_newThing ⟨Nat.le_of_ble_eq_true rfl, Nat.le_of_ble_eq_true rfl⟩) [1, 2, 3, 4, 5, 6, 7, 8, 9, 10] rfl rfl rfl [true, false, false, false, false, false, false, false, false, false, false] ⟨rfl, trivial⟩ 11 rfl (by decide +kernel) rfl 0 rfl rfl rfl hl.1 rfl (Nat.le_of_ble_eq_true rfl) ⟨Nat.le_refl 0, Nat.le_refl 0⟩ dX0_addFiles_35 (fun H locs hP hD hS => ?_)
    refine lv_istore_n (lv' := [(2, .int v3), (0, .ref b), (1, .int x1)]) hx hb dX0_addFiles_38 rfl hl (by decide) rfl (fun ls hl => ?_)
    refine lv_iload_n hx hb dX0_addFiles_39 rfl (lv_at hl 0 rfl) ?_
    refine lv_bipush (v := (-4)) hx hb dX0_addFiles_40 (by decide) ?_
    refine lv_icmp_eq (tgt := 54) hx hb dX0_addFiles_42 (by decide) (fun c6 => ?_) (fun c6 => ?_)
    · have he := ifp he c6
      refine lv_iload_n hx hb dX0_addFiles_54 rfl (lv_at hl 0 rfl) ?_
      obtain ⟨rfl, rfl⟩ := some2 he
      exact cRi hx hb hr hlk hK rfl hP hD hS dX0_addFiles_55
    · have he := ifn he c6
      refine lv_aload_n hx hb dX0_addFiles_45 rfl (lv_at hl 1 rfl) ?_
      refine va_get (D := D) (ci := 0) (v := .ref (a 0)) (C := RX0) (T := TX0) (N := 1) hx hb hts iX0 hown hK hP 0 rfl rfl 0 (by decide) w2 (fun _ h9 => h9) rfl dX0_addFiles_46 ?_
      refine lv_iload_n hx hb dX0_addFiles_49 rfl (lv_at hl 0 rfl) ?_
      refine lv_iload_n hx hb dX0_addFiles_50 rfl (lv_at hl 2 rfl) ?_
      obtain ⟨P7, h8, he⟩ := bn1_i he
      refine cVv (wf := (wActs k b a P7)) (As := [.int v3, .int x1]) (rest := []) ⟨hx, hb, hml, hown, hts⟩ hK hA hP hD hS (mX4_setQuota l D k a (P_0 := P4) h8) (cwV 2 hts gX0_addFiles_X4_setQuota rfl rfl rfl kX4_setQuota ⟨Nat.le_of_ble_eq_true rfl, Nat.le_of_ble_eq_true rfl⟩) [1, 2, 3, 4, 5, 6, 7, 8, 9, 10] rfl rfl rfl [true, false, false, false, false, false, false, false, false, false, false] ⟨rfl, trivial⟩ 11 rfl (by decide +kernel) rfl 0 rfl rfl rfl hl.1 rfl (Nat.le_of_ble_eq_true rfl) ⟨Nat.le_refl 0, Nat.le_refl 0⟩ dX0_addFiles_51 (fun H locs hP hD hS => ?_)
      refine lv_iload_n hx hb dX0_addFiles_54 rfl (lv_at hl 0 rfl) ?_
      obtain ⟨rfl, rfl⟩ := some2 he
      exact cRi hx hb hr hlk hK rfl hP hD hS dX0_addFiles_55
  have hS0 := hS
  have key : ∀ (H : Heap) (locs : List Loc), H = ss.heap → locs = [] → va_P D vwCl (wActs k b a P_0) H → va_S (va_A (wActs k b a P_0) ss.heap.size) ss.heap H locs → W pp l ee ({ frames := 1, cells := 0, slots := 0, locals := 23 } : Room) ss mm ([.ref b, .int p1] : List Value).toArray bl me co H locs 0 0 (MQ bl (cQi D k (wActs k b a P_0) ss.heap.size r (wActs k b a P')) ([.ref b, .int p1] : List Value).toArray ss 0 0 (va_A (wActs k b a P_0) ss.heap.size)) (F0 mm 0 ls []) := by
    intro H locs _ _ hP hS
    refine lv_iload_n hx hb dX0_addFiles_0 rfl (lv_at hl 1 rfl) ?_
    refine lv_iconst (v := (-1)) hx hb dX0_addFiles_1 (by decide) ?_
    refine lv_icmp_lt (tgt := 11) hx hb dX0_addFiles_2 (by decide) (fun c1001 => ?_) (fun c1001 => ?_)
    · have he := ifp he c1001
      refine lv_bipush (v := (-2)) hx hb dX0_addFiles_11 (by decide) ?_
      obtain ⟨rfl, rfl⟩ := some2 he
      exact cRi hx hb hr hlk hK rfl hP hD hS dX0_addFiles_13
    · have he := ifn he c1001
      refine lv_iload_n hx hb dX0_addFiles_5 rfl (lv_at hl 1 rfl) ?_
      refine lv_ldc hx hb hown w1 dX0_addFiles_6 ?_
      refine lv_icmp_le (tgt := 14) hx hb dX0_addFiles_8 (by decide) (fun c1002 => ?_) (fun c1002 => ?_)
      · have he := ifp he c1002
        refine lv_aload_n hx hb dX0_addFiles_14 rfl (lv_at hl 0 rfl) ?_
        refine va_get (D := D) (ci := 0) (v := .ref (a 0)) (C := RX0) (T := TX0) (N := 1) hx hb hts iX0 hown hK hP 0 rfl rfl 0 (by decide) w2 (fun _ h9 => h9) rfl dX0_addFiles_15 ?_
        refine lv_iload_n hx hb dX0_addFiles_18 rfl (lv_at hl 1 rfl) ?_
        refine lv_iconst (v := (-1)) hx hb dX0_addFiles_19 (by decide) ?_
        refine lv_icmp_ne (tgt := 27) hx hb dX0_addFiles_20 (by decide) (fun c1003 => ?_) (fun c1003 => ?_)
        · have he := ifn he c1003
          refine lv_iconst (v := 1) hx hb dX0_addFiles_27 (by decide) ?_
          exact B28 p1 1 P_0 he H locs hP hD hS ls (lv_sub hl [0, 1] rfl)
        · have he := ifp he c1003
          refine lv_iconst (v := 0) hx hb dX0_addFiles_23 (by decide) ?_
          refine lv_goto (tgt := 28) hx hb dX0_addFiles_24 (by decide) ?_
          exact B28 p1 0 P_0 he H locs hP hD hS ls (lv_sub hl [0, 1] rfl)
      · have he := ifn he c1002
        refine lv_bipush (v := (-2)) hx hb dX0_addFiles_11 (by decide) ?_
        obtain ⟨rfl, rfl⟩ := some2 he
        exact cRi hx hb hr hlk hK rfl hP hD hS dX0_addFiles_13
  exact key ss.heap [] rfl rfl hP hS
theorem kX0_emptySlot : yX0_emptySlot.cls = RX0 ∧ yX0_emptySlot.cls ≠ "java/lang/invoke/MethodHandle" ∧ yX0_emptySlot.cls ≠ "java/lang/invoke/VarHandle" ∧ (parseMethodDescriptor yX0_emptySlot.desc).map (fun d => d.parameters.length) = some 2 := by decide +kernel
set_option maxRecDepth 100000 in
set_option maxHeartbeats 4000000 in
theorem mX0_emptySlot (l : Launch) (D : va_G) (k : Nat → ClassId) (b : Nat) (a : Nat → Nat) {P_0 : Nat → Nat → Int32} {p1 : Int32} {p2 : Int32} {r : Int32} {P' : Nat → Nat → Int32} (he : xX0_emptySlot P_0 p1 p2 = some (r, P')) : CtI l D k yX0_emptySlot wsX0_emptySlot ({ frames := 1, cells := 0, slots := 0, locals := 23 } : Room) [.ref b, .int p1, .int p2] (wActs k b a P_0) r (wActs k b a P') := by
  intro sz9
  refine cSt (lv := [(0, .ref b), (1, .int p1), (2, .int p2)]) (own := RX0) (cc := cX0_emptySlot) (nL := 4) (ret := (some .int)) (by decide +kernel) rfl rfl (Nat.le_of_ble_eq_true rfl) rfl ?_
  intro pp ee ss mm bl me co hsz hC0 hP hD hS ls hl
  subst hsz
  obtain ⟨hx, hb, hr, hml, hown, hts, hK, hlk⟩ := hC0
  have hA : ∀ q, ss.heap.size ≤ q → va_A (wActs k b a P_0) ss.heap.size q := fun q h => Or.inr h
  have iX0 : ∀ w ∈ wsX00, w ∈ wsX0_emptySlot := fun _ h => List.mem_cons_of_mem _ (List.mem_append_left _ (List.mem_append_right _ h))
  have w1 := hts (.fieldLink RX0 9 "DeadListPool$Acts" "pool" "LDeadListPool$Pool;") (List.mem_of_getElem? (i := 1) rfl)
  have hS0 := hS
  have key : ∀ (H : Heap) (locs : List Loc), H = ss.heap → locs = [] → va_P D vwCl (wActs k b a P_0) H → va_S (va_A (wActs k b a P_0) ss.heap.size) ss.heap H locs → W pp l ee ({ frames := 1, cells := 0, slots := 0, locals := 23 } : Room) ss mm ([.ref b, .int p1, .int p2] : List Value).toArray bl me co H locs 0 0 (MQ bl (cQi D k (wActs k b a P_0) ss.heap.size r (wActs k b a P')) ([.ref b, .int p1, .int p2] : List Value).toArray ss 0 0 (va_A (wActs k b a P_0) ss.heap.size)) (F0 mm 0 ls []) := by
    intro H locs _ _ hP hS
    refine lv_aload_n hx hb dX0_emptySlot_0 rfl (lv_at hl 0 rfl) ?_
    refine va_get (D := D) (ci := 0) (v := .ref (a 0)) (C := RX0) (T := TX0) (N := 1) hx hb hts iX0 hown hK hP 0 rfl rfl 0 (by decide) w1 (fun _ h9 => h9) rfl dX0_emptySlot_1 ?_
    refine lv_iload_n hx hb dX0_emptySlot_4 rfl (lv_at hl 1 rfl) ?_
    refine lv_iload_n hx hb dX0_emptySlot_5 rfl (lv_at hl 2 rfl) ?_
    obtain ⟨v1001, h1002, he⟩ := bn1_i he
    refine cVir (As := [.int p1, .int p2]) (rest := []) ⟨hx, hb, hml, hown, hts⟩ hK hA hP hD hS (mX4_blockIn l D k a (P := P_0) h1002) (cwV 2 hts gX0_emptySlot_X4_blockIn rfl rfl rfl kX4_blockIn ⟨Nat.le_of_ble_eq_true rfl, Nat.le_of_ble_eq_true rfl⟩) [1, 2, 3, 4, 5, 6, 7, 8, 9, 10] rfl rfl 0 rfl rfl rfl hl.1 rfl (Nat.le_of_ble_eq_true rfl) ⟨Nat.le_refl 0, Nat.le_refl 0⟩ dX0_emptySlot_6 (fun H locs hP hD hS => ?_)
    refine lv_istore_n (lv' := [(3, .int v1001), (0, .ref b), (1, .int p1), (2, .int p2)]) hx hb dX0_emptySlot_9 rfl hl (by decide) rfl (fun ls hl => ?_)
    refine lv_aload_n hx hb dX0_emptySlot_10 rfl (lv_at hl 1 rfl) ?_
    refine va_get (D := D) (ci := 0) (v := .ref (a 0)) (C := RX0) (T := TX0) (N := 1) hx hb hts iX0 hown hK hP 0 rfl rfl 0 (by decide) w1 (fun _ h9 => h9) rfl dX0_emptySlot_11 ?_
    refine lv_iload_n hx hb dX0_emptySlot_14 rfl (lv_at hl 2 rfl) ?_
    refine lv_iload_n hx hb dX0_emptySlot_15 rfl (lv_at hl 3 rfl) ?_
    refine lv_iconst (v := (-1)) hx hb dX0_emptySlot_16 (by decide) ?_
    obtain ⟨P1003, h1004, he⟩ := bn1_i he
    refine cVv (wf := (wActs k b a P1003)) (As := [.int p1, .int p2, .int (-1)]) (rest := []) ⟨hx, hb, hml, hown, hts⟩ hK hA hP hD hS (mX4_setSlot l D k a (P_0 := P_0) h1004) (cwV 3 hts gX0_emptySlot_X4_setSlot rfl rfl rfl kX4_setSlot ⟨Nat.le_of_ble_eq_true rfl, Nat.le_of_ble_eq_true rfl⟩) [1, 2, 3, 4, 5, 6, 7, 8, 9, 10] rfl rfl rfl [true, false, false, false, false, false, false, false, false, false, false] ⟨rfl, trivial⟩ 11 rfl (by decide +kernel) rfl 0 rfl rfl rfl hl.1 rfl (Nat.le_of_ble_eq_true rfl) ⟨Nat.le_refl 0, Nat.le_refl 0⟩ dX0_emptySlot_17 (fun H locs hP hD hS => ?_)
    refine lv_iload_n hx hb dX0_emptySlot_20 rfl (lv_at hl 0 rfl) ?_
    refine lv_iconst (v := (-1)) hx hb dX0_emptySlot_21 (by decide) ?_
    refine lv_icmp_eq (tgt := 51) hx hb dX0_emptySlot_22 (by decide) (fun c1005 => ?_) (fun c1005 => ?_)
    · have he := ifp he c1005
      refine lv_iconst (v := 0) hx hb dX0_emptySlot_51 (by decide) ?_
      obtain ⟨rfl, rfl⟩ := some2 he
      exact cRi hx hb hr hlk hK rfl hP hD hS dX0_emptySlot_52
    · have he := ifn he c1005
      refine lv_aload_n hx hb dX0_emptySlot_25 rfl (lv_at hl 1 rfl) ?_
      refine va_get (D := D) (ci := 0) (v := .ref (a 0)) (C := RX0) (T := TX0) (N := 1) hx hb hts iX0 hown hK hP 0 rfl rfl 0 (by decide) w1 (fun _ h9 => h9) rfl dX0_emptySlot_26 ?_
      refine lv_iload_n hx hb dX0_emptySlot_29 rfl (lv_at hl 0 rfl) ?_
      obtain ⟨v1006, h1007, he⟩ := bn1_i he
      refine cVir (As := [.int v1001]) (rest := []) ⟨hx, hb, hml, hown, hts⟩ hK hA hP hD hS (mX4_birthOf l D k a (P := P1003) h1007) (cwV 1 hts gX0_emptySlot_X4_birthOf rfl rfl rfl kX4_birthOf ⟨Nat.le_of_ble_eq_true rfl, Nat.le_of_ble_eq_true rfl⟩) [1, 2, 3, 4, 5, 6, 7, 8, 9, 10] rfl rfl 0 rfl rfl rfl hl.1 rfl (Nat.le_of_ble_eq_true rfl) ⟨Nat.le_refl 0, Nat.le_refl 0⟩ dX0_emptySlot_30 (fun H locs hP hD hS => ?_)
      refine lv_aload_n hx hb dX0_emptySlot_33 rfl (lv_at hl 1 rfl) ?_
      refine va_get (D := D) (ci := 0) (v := .ref (a 0)) (C := RX0) (T := TX0) (N := 1) hx hb hts iX0 hown hK hP 0 rfl rfl 0 (by decide) w1 (fun _ h9 => h9) rfl dX0_emptySlot_34 ?_
      refine lv_aload_n hx hb dX0_emptySlot_37 rfl (lv_at hl 1 rfl) ?_
      refine va_get (D := D) (ci := 0) (v := .ref (a 0)) (C := RX0) (T := TX0) (N := 1) hx hb hts iX0 hown hK hP 0 rfl rfl 0 (by decide) w1 (fun _ h9 => h9) rfl dX0_emptySlot_38 ?_
      refine lv_iload_n hx hb dX0_emptySlot_41 rfl (lv_at hl 2 rfl) ?_
      obtain ⟨v1008, h1009, he⟩ := bn1_i he
      refine cVir (As := [.int p1]) (rest := [.ref (a 0), .int v1006]) ⟨hx, hb, hml, hown, hts⟩ hK hA hP hD hS (mX4_prevOf l D k a (P := P1003) h1009) (cwV 1 hts gX0_emptySlot_X4_prevOf rfl rfl rfl kX4_prevOf ⟨Nat.le_of_ble_eq_true rfl, Nat.le_of_ble_eq_true rfl⟩) [1, 2, 3, 4, 5, 6, 7, 8, 9, 10] rfl rfl 0 rfl rfl rfl hl.1 rfl (Nat.le_of_ble_eq_true rfl) ⟨Nat.le_refl 0, Nat.le_refl 0⟩ dX0_emptySlot_42 (fun H locs hP hD hS => ?_)
      obtain ⟨v1010, h1011, he⟩ := bn1_i he
      refine cVir (As := [.int v1008]) (rest := [.int v1006]) ⟨hx, hb, hml, hown, hts⟩ hK hA hP hD hS (mX4_madeOf l D k a (P := P1003) h1011) (cwV 1 hts gX0_emptySlot_X4_madeOf rfl rfl rfl kX4_madeOf ⟨Nat.le_of_ble_eq_true rfl, Nat.le_of_ble_eq_true rfl⟩) [1, 2, 3, 4, 5, 6, 7, 8, 9, 10] rfl rfl 0 rfl rfl rfl hl.1 rfl (Nat.le_of_ble_eq_true rfl) ⟨Nat.le_refl 0, Nat.le_refl 0⟩ dX0_emptySlot_45 (fun H locs hP hD hS => ?_)
      refine lv_icmp_gt (tgt := 53) hx hb dX0_emptySlot_48 (by decide) (fun c1012 => ?_) (fun c1012 => ?_)
      · have he := ifp he c1012
        refine lv_aload_n hx hb dX0_emptySlot_53 rfl (lv_at hl 1 rfl) ?_
        refine va_get (D := D) (ci := 0) (v := .ref (a 0)) (C := RX0) (T := TX0) (N := 1) hx hb hts iX0 hown hK hP 0 rfl rfl 0 (by decide) w1 (fun _ h9 => h9) rfl dX0_emptySlot_54 ?_
        refine lv_iload_n hx hb dX0_emptySlot_57 rfl (lv_at hl 0 rfl) ?_
        obtain ⟨P1013, h1014, he⟩ := bn1_i he
        refine cVv (wf := (wActs k b a P1013)) (As := [.int v1001]) (rest := []) ⟨hx, hb, hml, hown, hts⟩ hK hA hP hD hS (mX4_freeBlock l D k a (P_0 := P1003) h1014) (cwV 1 hts gX0_emptySlot_X4_freeBlock rfl rfl rfl kX4_freeBlock ⟨Nat.le_of_ble_eq_true rfl, Nat.le_of_ble_eq_true rfl⟩) [1, 2, 3, 4, 5, 6, 7, 8, 9, 10] rfl rfl rfl [true, false, false, false, false, false, false, false, false, false, false] ⟨rfl, trivial⟩ 11 rfl (by decide +kernel) rfl 0 rfl rfl rfl hl.1 rfl (Nat.le_of_ble_eq_true rfl) ⟨Nat.le_refl 0, Nat.le_refl 0⟩ dX0_emptySlot_58 (fun H locs hP hD hS => ?_)
        refine lv_iconst (v := 1) hx hb dX0_emptySlot_61 (by decide) ?_
        obtain ⟨rfl, rfl⟩ := some2 he
        exact cRi hx hb hr hlk hK rfl hP hD hS dX0_emptySlot_62
      · have he := ifn he c1012
        refine lv_iconst (v := 0) hx hb dX0_emptySlot_51 (by decide) ?_
        obtain ⟨rfl, rfl⟩ := some2 he
        exact cRi hx hb hr hlk hK rfl hP hD hS dX0_emptySlot_52
  exact key ss.heap [] rfl rfl hP hS
theorem kX0_fillSlot : yX0_fillSlot.cls = RX0 ∧ yX0_fillSlot.cls ≠ "java/lang/invoke/MethodHandle" ∧ yX0_fillSlot.cls ≠ "java/lang/invoke/VarHandle" ∧ (parseMethodDescriptor yX0_fillSlot.desc).map (fun d => d.parameters.length) = some 3 := by decide +kernel
set_option maxRecDepth 100000 in
set_option maxHeartbeats 4000000 in
theorem mX0_fillSlot (l : Launch) (D : va_G) (k : Nat → ClassId) (b : Nat) (a : Nat → Nat) {P_0 : Nat → Nat → Int32} {p1 : Int32} {p2 : Int32} {p3 : Int32} {r : Int32} {P' : Nat → Nat → Int32} (he : xX0_fillSlot P_0 p1 p2 p3 = some (r, P')) : CtI l D k yX0_fillSlot wsX0_fillSlot ({ frames := 2, cells := 0, slots := 0, locals := 46 } : Room) [.ref b, .int p1, .int p2, .int p3] (wActs k b a P_0) r (wActs k b a P') := by
  intro sz9
  refine cSt (lv := [(0, .ref b), (1, .int p1), (2, .int p2), (3, .int p3)]) (own := RX0) (cc := cX0_fillSlot) (nL := 8) (ret := (some .int)) (by decide +kernel) rfl rfl (Nat.le_of_ble_eq_true rfl) rfl ?_
  intro pp ee ss mm bl me co hsz hC0 hP hD hS ls hl
  subst hsz
  obtain ⟨hx, hb, hr, hml, hown, hts, hK, hlk⟩ := hC0
  have hA : ∀ q, ss.heap.size ≤ q → va_A (wActs k b a P_0) ss.heap.size q := fun q h => Or.inr h
  have iX0 : ∀ w ∈ wsX00, w ∈ wsX0_fillSlot := fun _ h => List.mem_cons_of_mem _ (List.mem_append_left _ (List.mem_append_right _ h))
  have w1 := hts (.fieldLink RX0 9 "DeadListPool$Acts" "pool" "LDeadListPool$Pool;") (List.mem_of_getElem? (i := 1) rfl)
  have B59 : ∀ (x1 : Int32) (x2 : Int32) (x3 : Int32) (P : Nat → Nat → Int32), xX0_fillSlot_59 x1 x2 x3 P = some (r, P') → ∀ (H : Heap) (locs : List Loc), va_P D vwCl (wActs k b a P) H → va_D (va_A (wActs k b a P_0) ss.heap.size) (wActs k b a P) → va_S (va_A (wActs k b a P_0) ss.heap.size) ss.heap H locs → ∀ ls : Array Slot, lv_has ls 8 [(0, .ref b), (1, .int x1), (2, .int x2), (3, .int x3)] → W pp l ee ({ frames := 2, cells := 0, slots := 0, locals := 46 } : Room) ss mm ([.ref b, .int p1, .int p2, .int p3] : List Value).toArray bl me co H locs 0 0 (MQ bl (cQi D k (wActs k b a P_0) ss.heap.size r (wActs k b a P')) ([.ref b, .int p1, .int p2, .int p3] : List Value).toArray ss 0 0 (va_A (wActs k b a P_0) ss.heap.size)) (F0 mm 59 ls []) := by
    intro x1 x2 x3 P he H locs hP hD hS ls hl
    refine lv_aload_n hx hb dX0_fillSlot_59 rfl (lv_at hl 0 rfl) ?_
    refine va_get (D := D) (ci := 0) (v := .ref (a 0)) (C := RX0) (T := TX0) (N := 1) hx hb hts iX0 hown hK hP 0 rfl rfl 0 (by decide) w1 (fun _ h9 => h9) rfl dX0_fillSlot_60 ?_
    refine lv_iload_n hx hb dX0_fillSlot_63 rfl (lv_at hl 3 rfl) ?_
    obtain ⟨v1, P2, h3, he⟩ := bn2_i he
    refine cVi (wf := (wActs k b a P2)) (As := [.int x3]) (rest := []) ⟨hx, hb, hml, hown, hts⟩ hK hA hP hD hS (mX4_newBlock l D k a (P_0 := P) h3) (cwV 1 hts gX0_fillSlot_X4_newBlock rfl rfl rfl kX4_newBlock ⟨Nat.le_of_ble_eq_true rfl, Nat.le_of_ble_eq_true rfl⟩) [1, 2, 3, 4, 5, 6, 7, 8, 9, 10] rfl rfl rfl [true, false, false, false, false, false, false, false, false, false, false] ⟨rfl, trivial⟩ 11 rfl (by decide +kernel) rfl 0 rfl rfl rfl hl.1 rfl (Nat.le_of_ble_eq_true rfl) ⟨Nat.le_refl 0, Nat.le_refl 0⟩ dX0_fillSlot_64 (fun H locs hP hD hS => ?_)
    refine lv_istore (lv' := [(7, .int v1), (0, .ref b), (1, .int x1), (2, .int x2), (3, .int x3)]) hx hb dX0_fillSlot_67 hl (by decide) rfl (fun ls hl => ?_)
    refine lv_iload hx hb dX0_fillSlot_69 (lv_at hl 0 rfl) ?_
    refine lv_bipush (v := (-4)) hx hb dX0_fillSlot_71 (by decide) ?_
    refine lv_icmp_eq (tgt := 94) hx hb dX0_fillSlot_73 (by decide) (fun c4 => ?_) (fun c4 => ?_)
    · have he := ifp he c4
      refine lv_iload hx hb dX0_fillSlot_94 (lv_at hl 0 rfl) ?_
      obtain ⟨rfl, rfl⟩ := some2 he
      exact cRi hx hb hr hlk hK rfl hP hD hS dX0_fillSlot_96
    · have he := ifn he c4
      refine lv_aload_n hx hb dX0_fillSlot_76 rfl (lv_at hl 1 rfl) ?_
      refine lv_iload_n hx hb dX0_fillSlot_77 rfl (lv_at hl 2 rfl) ?_
      refine lv_iload_n hx hb dX0_fillSlot_78 rfl (lv_at hl 3 rfl) ?_
      obtain ⟨v5, P6, h7, he⟩ := bn2_i he
      refine cVi (wf := (wActs k b a P6)) (As := [.int x1, .int x2]) (rest := []) ⟨hx, hb, hml, hown, hts⟩ hK hA hP hD hS (mX0_emptySlot l D k b a (P_0 := P2) h7) (cwV 2 hts gX0_fillSlot_X0_emptySlot rfl rfl rfl kX0_emptySlot ⟨Nat.le_of_ble_eq_true rfl, Nat.le_of_ble_eq_true rfl⟩) [0, 1, 2, 3, 4, 5, 6, 7, 8, 9, 10] rfl rfl rfl [false, false, false, false, false, false, false, false, false, false, false] trivial 11 rfl (by decide +kernel) rfl 0 rfl rfl rfl hl.1 rfl (Nat.le_of_ble_eq_true rfl) ⟨Nat.le_refl 0, Nat.le_refl 0⟩ dX0_fillSlot_79 (fun H locs hP hD hS => ?_)
      refine lv_pop hx hb dX0_fillSlot_82 rfl ?_
      refine lv_aload_n hx hb dX0_fillSlot_83 rfl (lv_at hl 1 rfl) ?_
      refine va_get (D := D) (ci := 0) (v := .ref (a 0)) (C := RX0) (T := TX0) (N := 1) hx hb hts iX0 hown hK hP 0 rfl rfl 0 (by decide) w1 (fun _ h9 => h9) rfl dX0_fillSlot_84 ?_
      refine lv_iload_n hx hb dX0_fillSlot_87 rfl (lv_at hl 2 rfl) ?_
      refine lv_iload_n hx hb dX0_fillSlot_88 rfl (lv_at hl 3 rfl) ?_
      refine lv_iload hx hb dX0_fillSlot_89 (lv_at hl 0 rfl) ?_
      obtain ⟨P8, h9, he⟩ := bn1_i he
      refine cVv (wf := (wActs k b a P8)) (As := [.int x1, .int x2, .int v1]) (rest := []) ⟨hx, hb, hml, hown, hts⟩ hK hA hP hD hS (mX4_setSlot l D k a (P_0 := P6) h9) (cwV 3 hts gX0_fillSlot_X4_setSlot rfl rfl rfl kX4_setSlot ⟨Nat.le_of_ble_eq_true rfl, Nat.le_of_ble_eq_true rfl⟩) [1, 2, 3, 4, 5, 6, 7, 8, 9, 10] rfl rfl rfl [true, false, false, false, false, false, false, false, false, false, false] ⟨rfl, trivial⟩ 11 rfl (by decide +kernel) rfl 0 rfl rfl rfl hl.1 rfl (Nat.le_of_ble_eq_true rfl) ⟨Nat.le_refl 0, Nat.le_refl 0⟩ dX0_fillSlot_91 (fun H locs hP hD hS => ?_)
      refine lv_iload hx hb dX0_fillSlot_94 (lv_at hl 0 rfl) ?_
      obtain ⟨rfl, rfl⟩ := some2 he
      exact cRi hx hb hr hlk hK rfl hP hD hS dX0_fillSlot_96
  have hS0 := hS
  have key : ∀ (H : Heap) (locs : List Loc), H = ss.heap → locs = [] → va_P D vwCl (wActs k b a P_0) H → va_S (va_A (wActs k b a P_0) ss.heap.size) ss.heap H locs → W pp l ee ({ frames := 2, cells := 0, slots := 0, locals := 46 } : Room) ss mm ([.ref b, .int p1, .int p2, .int p3] : List Value).toArray bl me co H locs 0 0 (MQ bl (cQi D k (wActs k b a P_0) ss.heap.size r (wActs k b a P')) ([.ref b, .int p1, .int p2, .int p3] : List Value).toArray ss 0 0 (va_A (wActs k b a P_0) ss.heap.size)) (F0 mm 0 ls []) := by
    intro H locs _ _ hP hS
    refine lv_aload_n hx hb dX0_fillSlot_0 rfl (lv_at hl 0 rfl) ?_
    refine va_get (D := D) (ci := 0) (v := .ref (a 0)) (C := RX0) (T := TX0) (N := 1) hx hb hts iX0 hown hK hP 0 rfl rfl 0 (by decide) w1 (fun _ h9 => h9) rfl dX0_fillSlot_1 ?_
    refine lv_iload_n hx hb dX0_fillSlot_4 rfl (lv_at hl 1 rfl) ?_
    obtain ⟨v1001, h1002, he⟩ := bn1_i he
    refine cVir (As := [.int p1]) (rest := []) ⟨hx, hb, hml, hown, hts⟩ hK hA hP hD hS (mX4_quotaOf l D k a (P := P_0) h1002) (cwV 1 hts gX0_fillSlot_X4_quotaOf rfl rfl rfl kX4_quotaOf ⟨Nat.le_of_ble_eq_true rfl, Nat.le_of_ble_eq_true rfl⟩) [1, 2, 3, 4, 5, 6, 7, 8, 9, 10] rfl rfl 0 rfl rfl rfl hl.1 rfl (Nat.le_of_ble_eq_true rfl) ⟨Nat.le_refl 0, Nat.le_refl 0⟩ dX0_fillSlot_5 (fun H locs hP hD hS => ?_)
    refine lv_istore (lv' := [(4, .int v1001), (0, .ref b), (1, .int p1), (2, .int p2), (3, .int p3)]) hx hb dX0_fillSlot_8 hl (by decide) rfl (fun ls hl => ?_)
    refine lv_aload_n hx hb dX0_fillSlot_10 rfl (lv_at hl 1 rfl) ?_
    refine va_get (D := D) (ci := 0) (v := .ref (a 0)) (C := RX0) (T := TX0) (N := 1) hx hb hts iX0 hown hK hP 0 rfl rfl 0 (by decide) w1 (fun _ h9 => h9) rfl dX0_fillSlot_11 ?_
    refine lv_iload_n hx hb dX0_fillSlot_14 rfl (lv_at hl 2 rfl) ?_
    obtain ⟨v1003, h1004, he⟩ := bn1_i he
    refine cVlr (As := [.int p1]) (rest := []) ⟨hx, hb, hml, hown, hts⟩ hK hA hP hD hS (mX4_spaceOf l D k a (P := P_0) h1004) (cwV 1 hts gX0_fillSlot_X4_spaceOf rfl rfl rfl kX4_spaceOf ⟨Nat.le_of_ble_eq_true rfl, Nat.le_of_ble_eq_true rfl⟩) [1, 2, 3, 4, 5, 6, 7, 8, 9, 10] rfl rfl 0 rfl rfl rfl hl.1 rfl (Nat.le_of_ble_eq_true rfl) ⟨Nat.le_refl 0, Nat.le_refl 0⟩ dX0_fillSlot_15 (fun H locs hP hD hS => ?_)
    refine lv_aload_n hx hb dX0_fillSlot_18 rfl (lv_at hl 1 rfl) ?_
    refine va_get (D := D) (ci := 0) (v := .ref (a 0)) (C := RX0) (T := TX0) (N := 1) hx hb hts iX0 hown hK hP 0 rfl rfl 0 (by decide) w1 (fun _ h9 => h9) rfl dX0_fillSlot_19 ?_
    refine lv_aload_n hx hb dX0_fillSlot_22 rfl (lv_at hl 1 rfl) ?_
    refine va_get (D := D) (ci := 0) (v := .ref (a 0)) (C := RX0) (T := TX0) (N := 1) hx hb hts iX0 hown hK hP 0 rfl rfl 0 (by decide) w1 (fun _ h9 => h9) rfl dX0_fillSlot_23 ?_
    refine lv_iload_n hx hb dX0_fillSlot_26 rfl (lv_at hl 2 rfl) ?_
    refine lv_iload_n hx hb dX0_fillSlot_27 rfl (lv_at hl 3 rfl) ?_
    obtain ⟨v1005, h1006, he⟩ := bn1_i he
    refine cVir (As := [.int p1, .int p2]) (rest := [.ref (a 0), .long v1003]) ⟨hx, hb, hml, hown, hts⟩ hK hA hP hD hS (mX4_blockIn l D k a (P := P_0) h1006) (cwV 2 hts gX0_fillSlot_X4_blockIn rfl rfl rfl kX4_blockIn ⟨Nat.le_of_ble_eq_true rfl, Nat.le_of_ble_eq_true rfl⟩) [1, 2, 3, 4, 5, 6, 7, 8, 9, 10] rfl rfl 0 rfl rfl rfl hl.1 rfl (Nat.le_of_ble_eq_true rfl) ⟨Nat.le_refl 0, Nat.le_refl 0⟩ dX0_fillSlot_28 (fun H locs hP hD hS => ?_)
    obtain ⟨v1007, h1008, he⟩ := bn1_i he
    refine cVir (As := [.int v1005]) (rest := [.long v1003]) ⟨hx, hb, hml, hown, hts⟩ hK hA hP hD hS (mX4_sizeOf l D k a (P := P_0) h1008) (cwV 1 hts gX0_fillSlot_X4_sizeOf rfl rfl rfl kX4_sizeOf ⟨Nat.le_of_ble_eq_true rfl, Nat.le_of_ble_eq_true rfl⟩) [1, 2, 3, 4, 5, 6, 7, 8, 9, 10] rfl rfl 0 rfl rfl rfl hl.1 rfl (Nat.le_of_ble_eq_true rfl) ⟨Nat.le_refl 0, Nat.le_refl 0⟩ dX0_fillSlot_31 (fun H locs hP hD hS => ?_)
    refine lv_i2l (v := (Int32.toInt64 v1007)) hx hb dX0_fillSlot_34 rfl ?_
    refine lv_lsub hx hb dX0_fillSlot_35 ?_
    refine lv_iload_n hx hb dX0_fillSlot_36 rfl (lv_at hl 4 rfl) ?_
    refine lv_i2l (v := (Int32.toInt64 p3)) hx hb dX0_fillSlot_37 rfl ?_
    refine lv_ladd hx hb dX0_fillSlot_38 ?_
    refine lv_lstore (lv' := [(5, .long ((v1003 - (Int32.toInt64 v1007)) + (Int32.toInt64 p3))), (4, .int v1001), (0, .ref b), (1, .int p1), (2, .int p2), (3, .int p3)]) hx hb dX0_fillSlot_39 hl (by decide) rfl (fun ls hl => ?_)
    refine lv_iload hx hb dX0_fillSlot_41 (lv_at hl 1 rfl) ?_
    refine lv_iconst (v := (-1)) hx hb dX0_fillSlot_43 (by decide) ?_
    refine lv_icmp_eq (tgt := 59) hx hb dX0_fillSlot_44 (by decide) (fun c1009 => ?_) (fun c1009 => ?_)
    · have he := ifp he c1009
      exact B59 p1 p2 p3 P_0 he H locs hP hD hS ls (lv_sub hl [2, 3, 4, 5] rfl)
    · have he := ifn he c1009
      refine lv_lload hx hb dX0_fillSlot_47 (lv_at hl 0 rfl) ?_
      refine lv_iload hx hb dX0_fillSlot_49 (lv_at hl 1 rfl) ?_
      refine lv_i2l (v := (Int32.toInt64 v1001)) hx hb dX0_fillSlot_51 rfl ?_
      refine W.lcmp hx hb dX0_fillSlot_52 ?_
      refine lv_if_le (tgt := 59) hx hb dX0_fillSlot_53 (by decide) (fun c1010 => ?_) (fun c1010 => ?_)
      · have he := ifp he c1010
        exact B59 p1 p2 p3 P_0 he H locs hP hD hS ls (lv_sub hl [2, 3, 4, 5] rfl)
      · have he := ifn he c1010
        refine lv_bipush (v := (-4)) hx hb dX0_fillSlot_56 (by decide) ?_
        obtain ⟨rfl, rfl⟩ := some2 he
        exact cRi hx hb hr hlk hK rfl hP hD hS dX0_fillSlot_58
  exact key ss.heap [] rfl rfl hP hS
theorem kX0_writeSlot : yX0_writeSlot.cls = RX0 ∧ yX0_writeSlot.cls ≠ "java/lang/invoke/MethodHandle" ∧ yX0_writeSlot.cls ≠ "java/lang/invoke/VarHandle" ∧ (parseMethodDescriptor yX0_writeSlot.desc).map (fun d => d.parameters.length) = some 3 := by decide +kernel
set_option maxRecDepth 100000 in
set_option maxHeartbeats 4000000 in
theorem mX0_writeSlot (l : Launch) (D : va_G) (k : Nat → ClassId) (b : Nat) (a : Nat → Nat) {P_0 : Nat → Nat → Int32} {p1 : Int32} {p2 : Int32} {p3 : Int32} {r : Int32} {P' : Nat → Nat → Int32} (he : xX0_writeSlot P_0 p1 p2 p3 = some (r, P')) : CtI l D k yX0_writeSlot wsX0_writeSlot ({ frames := 3, cells := 0, slots := 0, locals := 73 } : Room) [.ref b, .int p1, .int p2, .int p3] (wActs k b a P_0) r (wActs k b a P') := by
  intro sz9
  refine cSt (lv := [(0, .ref b), (1, .int p1), (2, .int p2), (3, .int p3)]) (own := RX0) (cc := cX0_writeSlot) (nL := 5) (ret := (some .int)) (by decide +kernel) rfl rfl (Nat.le_of_ble_eq_true rfl) rfl ?_
  intro pp ee ss mm bl me co hsz hC0 hP hD hS ls hl
  subst hsz
  obtain ⟨hx, hb, hr, hml, hown, hts, hK, hlk⟩ := hC0
  have hA : ∀ q, ss.heap.size ≤ q → va_A (wActs k b a P_0) ss.heap.size q := fun q h => Or.inr h
  have w1 := hts (.constant RX0 15 (1000000000)) (List.mem_of_getElem? (i := 1) rfl)
  have iX0 : ∀ w ∈ wsX00, w ∈ wsX0_writeSlot := fun _ h => List.mem_cons_of_mem _ (List.mem_append_left _ (List.mem_append_right _ h))
  have w2 := hts (.fieldLink RX0 9 "DeadListPool$Acts" "pool" "LDeadListPool$Pool;") (List.mem_of_getElem? (i := 2) rfl)
  have hS0 := hS
  have key : ∀ (H : Heap) (locs : List Loc), H = ss.heap → locs = [] → va_P D vwCl (wActs k b a P_0) H → va_S (va_A (wActs k b a P_0) ss.heap.size) ss.heap H locs → W pp l ee ({ frames := 3, cells := 0, slots := 0, locals := 73 } : Room) ss mm ([.ref b, .int p1, .int p2, .int p3] : List Value).toArray bl me co H locs 0 0 (MQ bl (cQi D k (wActs k b a P_0) ss.heap.size r (wActs k b a P')) ([.ref b, .int p1, .int p2, .int p3] : List Value).toArray ss 0 0 (va_A (wActs k b a P_0) ss.heap.size)) (F0 mm 0 ls []) := by
    intro H locs _ _ hP hS
    refine lv_iload_n hx hb dX0_writeSlot_0 rfl (lv_at hl 2 rfl) ?_
    refine lv_if_lt (tgt := 21) hx hb dX0_writeSlot_1 (by decide) (fun c1001 => ?_) (fun c1001 => ?_)
    · have he := ifp he c1001
      refine lv_bipush (v := (-2)) hx hb dX0_writeSlot_21 (by decide) ?_
      obtain ⟨rfl, rfl⟩ := some2 he
      exact cRi hx hb hr hlk hK rfl hP hD hS dX0_writeSlot_23
    · have he := ifn he c1001
      refine lv_iload_n hx hb dX0_writeSlot_4 rfl (lv_at hl 2 rfl) ?_
      refine lv_bipush (v := 12) hx hb dX0_writeSlot_5 (by decide) ?_
      refine lv_icmp_ge (tgt := 21) hx hb dX0_writeSlot_7 (by decide) (fun c1002 => ?_) (fun c1002 => ?_)
      · have he := ifp he c1002
        refine lv_bipush (v := (-2)) hx hb dX0_writeSlot_21 (by decide) ?_
        obtain ⟨rfl, rfl⟩ := some2 he
        exact cRi hx hb hr hlk hK rfl hP hD hS dX0_writeSlot_23
      · have he := ifn he c1002
        refine lv_iload_n hx hb dX0_writeSlot_10 rfl (lv_at hl 3 rfl) ?_
        refine lv_iconst (v := 1) hx hb dX0_writeSlot_11 (by decide) ?_
        refine lv_icmp_lt (tgt := 21) hx hb dX0_writeSlot_12 (by decide) (fun c1003 => ?_) (fun c1003 => ?_)
        · have he := ifp he c1003
          refine lv_bipush (v := (-2)) hx hb dX0_writeSlot_21 (by decide) ?_
          obtain ⟨rfl, rfl⟩ := some2 he
          exact cRi hx hb hr hlk hK rfl hP hD hS dX0_writeSlot_23
        · have he := ifn he c1003
          refine lv_iload_n hx hb dX0_writeSlot_15 rfl (lv_at hl 3 rfl) ?_
          refine lv_ldc hx hb hown w1 dX0_writeSlot_16 ?_
          refine lv_icmp_le (tgt := 24) hx hb dX0_writeSlot_18 (by decide) (fun c1004 => ?_) (fun c1004 => ?_)
          · have he := ifp he c1004
            refine lv_aload_n hx hb dX0_writeSlot_24 rfl (lv_at hl 0 rfl) ?_
            refine va_get (D := D) (ci := 0) (v := .ref (a 0)) (C := RX0) (T := TX0) (N := 1) hx hb hts iX0 hown hK hP 0 rfl rfl 0 (by decide) w2 (fun _ h9 => h9) rfl dX0_writeSlot_25 ?_
            refine lv_iload_n hx hb dX0_writeSlot_28 rfl (lv_at hl 1 rfl) ?_
            refine lv_iconst (v := 0) hx hb dX0_writeSlot_29 (by decide) ?_
            obtain ⟨v1005, h1006, he⟩ := bn1_i he
            refine cVir (As := [.int p1, .int 0]) (rest := []) ⟨hx, hb, hml, hown, hts⟩ hK hA hP hD hS (mX4_refusalAs l D k a (P := P_0) h1006) (cwV 2 hts gX0_writeSlot_X4_refusalAs rfl rfl rfl kX4_refusalAs ⟨Nat.le_of_ble_eq_true rfl, Nat.le_of_ble_eq_true rfl⟩) [1, 2, 3, 4, 5, 6, 7, 8, 9, 10] rfl rfl 0 rfl rfl rfl hl.1 rfl (Nat.le_of_ble_eq_true rfl) ⟨Nat.le_refl 0, Nat.le_refl 0⟩ dX0_writeSlot_30 (fun H locs hP hD hS => ?_)
            refine lv_istore (lv' := [(4, .int v1005), (0, .ref b), (1, .int p1), (2, .int p2), (3, .int p3)]) hx hb dX0_writeSlot_33 hl (by decide) rfl (fun ls hl => ?_)
            refine lv_iload hx hb dX0_writeSlot_35 (lv_at hl 0 rfl) ?_
            refine lv_if_eq (tgt := 45) hx hb dX0_writeSlot_37 (by decide) (fun c1007 => ?_) (fun c1007 => ?_)
            · have he := ifp he c1007
              refine lv_aload_n hx hb dX0_writeSlot_45 rfl (lv_at hl 1 rfl) ?_
              refine lv_iload_n hx hb dX0_writeSlot_46 rfl (lv_at hl 2 rfl) ?_
              refine lv_iload_n hx hb dX0_writeSlot_47 rfl (lv_at hl 3 rfl) ?_
              refine lv_iload_n hx hb dX0_writeSlot_48 rfl (lv_at hl 4 rfl) ?_
              obtain ⟨v1008, P1009, h1010, he⟩ := bn2_i he
              refine cVi (wf := (wActs k b a P1009)) (As := [.int p1, .int p2, .int p3]) (rest := []) ⟨hx, hb, hml, hown, hts⟩ hK hA hP hD hS (mX0_fillSlot l D k b a (P_0 := P_0) h1010) (cwV 3 hts gX0_writeSlot_X0_fillSlot rfl rfl rfl kX0_fillSlot ⟨Nat.le_of_ble_eq_true rfl, Nat.le_of_ble_eq_true rfl⟩) [0, 1, 2, 3, 4, 5, 6, 7, 8, 9, 10] rfl rfl rfl [false, false, false, false, false, false, false, false, false, false, false] trivial 11 rfl (by decide +kernel) rfl 0 rfl rfl rfl hl.1 rfl (Nat.le_of_ble_eq_true rfl) ⟨Nat.le_refl 0, Nat.le_refl 0⟩ dX0_writeSlot_49 (fun H locs hP hD hS => ?_)
              obtain ⟨rfl, rfl⟩ := some2 he
              exact cRi hx hb hr hlk hK rfl hP hD hS dX0_writeSlot_52
            · have he := ifn he c1007
              refine lv_iload hx hb dX0_writeSlot_40 (lv_at hl 0 rfl) ?_
              refine lv_goto (tgt := 52) hx hb dX0_writeSlot_42 (by decide) ?_
              obtain ⟨rfl, rfl⟩ := some2 he
              exact cRi hx hb hr hlk hK rfl hP hD hS dX0_writeSlot_52
          · have he := ifn he c1004
            refine lv_bipush (v := (-2)) hx hb dX0_writeSlot_21 (by decide) ?_
            obtain ⟨rfl, rfl⟩ := some2 he
            exact cRi hx hb hr hlk hK rfl hP hD hS dX0_writeSlot_23
  exact key ss.heap [] rfl rfl hP hS
theorem kX0_eraseSlot : yX0_eraseSlot.cls = RX0 ∧ yX0_eraseSlot.cls ≠ "java/lang/invoke/MethodHandle" ∧ yX0_eraseSlot.cls ≠ "java/lang/invoke/VarHandle" ∧ (parseMethodDescriptor yX0_eraseSlot.desc).map (fun d => d.parameters.length) = some 2 := by decide +kernel
set_option maxRecDepth 100000 in
set_option maxHeartbeats 4000000 in
theorem mX0_eraseSlot (l : Launch) (D : va_G) (k : Nat → ClassId) (b : Nat) (a : Nat → Nat) {P_0 : Nat → Nat → Int32} {p1 : Int32} {p2 : Int32} {r : Int32} {P' : Nat → Nat → Int32} (he : xX0_eraseSlot P_0 p1 p2 = some (r, P')) : CtI l D k yX0_eraseSlot wsX0_eraseSlot ({ frames := 2, cells := 0, slots := 0, locals := 46 } : Room) [.ref b, .int p1, .int p2] (wActs k b a P_0) r (wActs k b a P') := by
  intro sz9
  refine cSt (lv := [(0, .ref b), (1, .int p1), (2, .int p2)]) (own := RX0) (cc := cX0_eraseSlot) (nL := 5) (ret := (some .int)) (by decide +kernel) rfl rfl (Nat.le_of_ble_eq_true rfl) rfl ?_
  intro pp ee ss mm bl me co hsz hC0 hP hD hS ls hl
  subst hsz
  obtain ⟨hx, hb, hr, hml, hown, hts, hK, hlk⟩ := hC0
  have hA : ∀ q, ss.heap.size ≤ q → va_A (wActs k b a P_0) ss.heap.size q := fun q h => Or.inr h
  have iX0 : ∀ w ∈ wsX00, w ∈ wsX0_eraseSlot := fun _ h => List.mem_cons_of_mem _ (List.mem_append_left _ (List.mem_append_right _ h))
  have w1 := hts (.fieldLink RX0 9 "DeadListPool$Acts" "pool" "LDeadListPool$Pool;") (List.mem_of_getElem? (i := 1) rfl)
  have hS0 := hS
  have key : ∀ (H : Heap) (locs : List Loc), H = ss.heap → locs = [] → va_P D vwCl (wActs k b a P_0) H → va_S (va_A (wActs k b a P_0) ss.heap.size) ss.heap H locs → W pp l ee ({ frames := 2, cells := 0, slots := 0, locals := 46 } : Room) ss mm ([.ref b, .int p1, .int p2] : List Value).toArray bl me co H locs 0 0 (MQ bl (cQi D k (wActs k b a P_0) ss.heap.size r (wActs k b a P')) ([.ref b, .int p1, .int p2] : List Value).toArray ss 0 0 (va_A (wActs k b a P_0) ss.heap.size)) (F0 mm 0 ls []) := by
    intro H locs _ _ hP hS
    refine lv_iload_n hx hb dX0_eraseSlot_0 rfl (lv_at hl 2 rfl) ?_
    refine lv_if_lt (tgt := 10) hx hb dX0_eraseSlot_1 (by decide) (fun c1001 => ?_) (fun c1001 => ?_)
    · have he := ifp he c1001
      refine lv_bipush (v := (-2)) hx hb dX0_eraseSlot_10 (by decide) ?_
      obtain ⟨rfl, rfl⟩ := some2 he
      exact cRi hx hb hr hlk hK rfl hP hD hS dX0_eraseSlot_12
    · have he := ifn he c1001
      refine lv_iload_n hx hb dX0_eraseSlot_4 rfl (lv_at hl 2 rfl) ?_
      refine lv_bipush (v := 12) hx hb dX0_eraseSlot_5 (by decide) ?_
      refine lv_icmp_lt (tgt := 13) hx hb dX0_eraseSlot_7 (by decide) (fun c1002 => ?_) (fun c1002 => ?_)
      · have he := ifp he c1002
        refine lv_aload_n hx hb dX0_eraseSlot_13 rfl (lv_at hl 0 rfl) ?_
        refine va_get (D := D) (ci := 0) (v := .ref (a 0)) (C := RX0) (T := TX0) (N := 1) hx hb hts iX0 hown hK hP 0 rfl rfl 0 (by decide) w1 (fun _ h9 => h9) rfl dX0_eraseSlot_14 ?_
        refine lv_iload_n hx hb dX0_eraseSlot_17 rfl (lv_at hl 1 rfl) ?_
        refine lv_iconst (v := 0) hx hb dX0_eraseSlot_18 (by decide) ?_
        obtain ⟨v1003, h1004, he⟩ := bn1_i he
        refine cVir (As := [.int p1, .int 0]) (rest := []) ⟨hx, hb, hml, hown, hts⟩ hK hA hP hD hS (mX4_refusalAs l D k a (P := P_0) h1004) (cwV 2 hts gX0_eraseSlot_X4_refusalAs rfl rfl rfl kX4_refusalAs ⟨Nat.le_of_ble_eq_true rfl, Nat.le_of_ble_eq_true rfl⟩) [1, 2, 3, 4, 5, 6, 7, 8, 9, 10] rfl rfl 0 rfl rfl rfl hl.1 rfl (Nat.le_of_ble_eq_true rfl) ⟨Nat.le_refl 0, Nat.le_refl 0⟩ dX0_eraseSlot_19 (fun H locs hP hD hS => ?_)
        refine lv_istore_n (lv' := [(3, .int v1003), (0, .ref b), (1, .int p1), (2, .int p2)]) hx hb dX0_eraseSlot_22 rfl hl (by decide) rfl (fun ls hl => ?_)
        refine lv_iload_n hx hb dX0_eraseSlot_23 rfl (lv_at hl 0 rfl) ?_
        refine lv_if_eq (tgt := 29) hx hb dX0_eraseSlot_24 (by decide) (fun c1005 => ?_) (fun c1005 => ?_)
        · have he := ifp he c1005
          refine lv_aload_n hx hb dX0_eraseSlot_29 rfl (lv_at hl 1 rfl) ?_
          refine va_get (D := D) (ci := 0) (v := .ref (a 0)) (C := RX0) (T := TX0) (N := 1) hx hb hts iX0 hown hK hP 0 rfl rfl 0 (by decide) w1 (fun _ h9 => h9) rfl dX0_eraseSlot_30 ?_
          refine lv_iload_n hx hb dX0_eraseSlot_33 rfl (lv_at hl 2 rfl) ?_
          refine lv_iload_n hx hb dX0_eraseSlot_34 rfl (lv_at hl 3 rfl) ?_
          obtain ⟨v1006, h1007, he⟩ := bn1_i he
          refine cVir (As := [.int p1, .int p2]) (rest := []) ⟨hx, hb, hml, hown, hts⟩ hK hA hP hD hS (mX4_blockIn l D k a (P := P_0) h1007) (cwV 2 hts gX0_eraseSlot_X4_blockIn rfl rfl rfl kX4_blockIn ⟨Nat.le_of_ble_eq_true rfl, Nat.le_of_ble_eq_true rfl⟩) [1, 2, 3, 4, 5, 6, 7, 8, 9, 10] rfl rfl 0 rfl rfl rfl hl.1 rfl (Nat.le_of_ble_eq_true rfl) ⟨Nat.le_refl 0, Nat.le_refl 0⟩ dX0_eraseSlot_35 (fun H locs hP hD hS => ?_)
          refine lv_istore (lv' := [(4, .int v1006), (3, .int v1003), (0, .ref b), (1, .int p1), (2, .int p2)]) hx hb dX0_eraseSlot_38 hl (by decide) rfl (fun ls hl => ?_)
          refine lv_aload_n hx hb dX0_eraseSlot_40 rfl (lv_at hl 2 rfl) ?_
          refine lv_iload_n hx hb dX0_eraseSlot_41 rfl (lv_at hl 3 rfl) ?_
          refine lv_iload_n hx hb dX0_eraseSlot_42 rfl (lv_at hl 4 rfl) ?_
          obtain ⟨v1008, P1009, h1010, he⟩ := bn2_i he
          refine cVi (wf := (wActs k b a P1009)) (As := [.int p1, .int p2]) (rest := []) ⟨hx, hb, hml, hown, hts⟩ hK hA hP hD hS (mX0_emptySlot l D k b a (P_0 := P_0) h1010) (cwV 2 hts gX0_eraseSlot_X0_emptySlot rfl rfl rfl kX0_emptySlot ⟨Nat.le_of_ble_eq_true rfl, Nat.le_of_ble_eq_true rfl⟩) [0, 1, 2, 3, 4, 5, 6, 7, 8, 9, 10] rfl rfl rfl [false, false, false, false, false, false, false, false, false, false, false] trivial 11 rfl (by decide +kernel) rfl 0 rfl rfl rfl hl.1 rfl (Nat.le_of_ble_eq_true rfl) ⟨Nat.le_refl 0, Nat.le_refl 0⟩ dX0_eraseSlot_43 (fun H locs hP hD hS => ?_)
          refine lv_pop hx hb dX0_eraseSlot_46 rfl ?_
          refine lv_iload hx hb dX0_eraseSlot_47 (lv_at hl 0 rfl) ?_
          obtain ⟨rfl, rfl⟩ := some2 he
          exact cRi hx hb hr hlk hK rfl hP hD hS dX0_eraseSlot_49
        · have he := ifn he c1005
          refine lv_iload_n hx hb dX0_eraseSlot_27 rfl (lv_at hl 0 rfl) ?_
          obtain ⟨rfl, rfl⟩ := some2 he
          exact cRi hx hb hr hlk hK rfl hP hD hS dX0_eraseSlot_28
      · have he := ifn he c1002
        refine lv_bipush (v := (-2)) hx hb dX0_eraseSlot_10 (by decide) ?_
        obtain ⟨rfl, rfl⟩ := some2 he
        exact cRi hx hb hr hlk hK rfl hP hD hS dX0_eraseSlot_12
  exact key ss.heap [] rfl rfl hP hS
theorem kX0_addSnapshot : yX0_addSnapshot.cls = RX0 ∧ yX0_addSnapshot.cls ≠ "java/lang/invoke/MethodHandle" ∧ yX0_addSnapshot.cls ≠ "java/lang/invoke/VarHandle" ∧ (parseMethodDescriptor yX0_addSnapshot.desc).map (fun d => d.parameters.length) = some 2 := by decide +kernel
set_option maxRecDepth 100000 in
set_option maxHeartbeats 4000000 in
theorem mX0_addSnapshot (l : Launch) (D : va_G) (k : Nat → ClassId) (b : Nat) (a : Nat → Nat) {P_0 : Nat → Nat → Int32} {p1 : Int32} {p2 : Int32} {r : Int32} {P' : Nat → Nat → Int32} (he : xX0_addSnapshot P_0 p1 p2 = some (r, P')) : CtI l D k yX0_addSnapshot wsX0_addSnapshot ({ frames := 2, cells := 0, slots := 0, locals := 46 } : Room) [.ref b, .int p1, .int p2] (wActs k b a P_0) r (wActs k b a P') := by
  intro sz9
  refine cSt (lv := [(0, .ref b), (1, .int p1), (2, .int p2)]) (own := RX0) (cc := cX0_addSnapshot) (nL := 5) (ret := (some .int)) (by decide +kernel) rfl rfl (Nat.le_of_ble_eq_true rfl) rfl ?_
  intro pp ee ss mm bl me co hsz hC0 hP hD hS ls hl
  subst hsz
  obtain ⟨hx, hb, hr, hml, hown, hts, hK, hlk⟩ := hC0
  have hA : ∀ q, ss.heap.size ≤ q → va_A (wActs k b a P_0) ss.heap.size q := fun q h => Or.inr h
  have iX0 : ∀ w ∈ wsX00, w ∈ wsX0_addSnapshot := fun _ h => List.mem_cons_of_mem _ (List.mem_append_left _ (List.mem_append_right _ h))
  have w1 := hts (.fieldLink RX0 9 "DeadListPool$Acts" "pool" "LDeadListPool$Pool;") (List.mem_of_getElem? (i := 1) rfl)
  have B42 : ∀ (x1 : Int32) (x2 : Int32) (y1 : Int32) (P : Nat → Nat → Int32), xX0_addSnapshot_42 x1 x2 y1 P = some (r, P') → ∀ (H : Heap) (locs : List Loc), va_P D vwCl (wActs k b a P) H → va_D (va_A (wActs k b a P_0) ss.heap.size) (wActs k b a P) → va_S (va_A (wActs k b a P_0) ss.heap.size) ss.heap H locs → ∀ ls : Array Slot, lv_has ls 5 [(0, .ref b), (1, .int x1), (2, .int x2)] → W pp l ee ({ frames := 2, cells := 0, slots := 0, locals := 46 } : Room) ss mm ([.ref b, .int p1, .int p2] : List Value).toArray bl me co H locs 0 0 (MQ bl (cQi D k (wActs k b a P_0) ss.heap.size r (wActs k b a P')) ([.ref b, .int p1, .int p2] : List Value).toArray ss 0 0 (va_A (wActs k b a P_0) ss.heap.size)) (F0 mm 42 ls [.int y1, .ref (a 0)]) := by
    intro x1 x2 y1 P he H locs hP hD hS ls hl
    refine lv_aload_n hx hb dX0_addSnapshot_42 rfl (lv_at hl 0 rfl) ?_
    refine va_get (D := D) (ci := 0) (v := .ref (a 0)) (C := RX0) (T := TX0) (N := 1) hx hb hts iX0 hown hK hP 0 rfl rfl 0 (by decide) w1 (fun _ h9 => h9) rfl dX0_addSnapshot_43 ?_
    obtain ⟨v1, h2, he⟩ := bn1_i he
    refine cVir (As := []) (rest := [.int y1, .ref (a 0)]) ⟨hx, hb, hml, hown, hts⟩ hK hA hP hD hS (mX4_now l D k a (P := P) h2) (cwV 0 hts gX0_addSnapshot_X4_now rfl rfl rfl kX4_now ⟨Nat.le_of_ble_eq_true rfl, Nat.le_of_ble_eq_true rfl⟩) [1, 2, 3, 4, 5, 6, 7, 8, 9, 10] rfl rfl 0 rfl rfl rfl hl.1 rfl (Nat.le_of_ble_eq_true rfl) ⟨Nat.le_refl 0, Nat.le_refl 0⟩ dX0_addSnapshot_46 (fun H locs hP hD hS => ?_)
    obtain ⟨v3, P4, h5, he⟩ := bn2_i he
    refine cVi (wf := (wActs k b a P4)) (As := [.int y1, .int v1]) (rest := []) ⟨hx, hb, hml, hown, hts⟩ hK hA hP hD hS (mX4_newThing l D k a (P_0 := P) h5) (cwV 2 hts gX0_addSnapshot_X4_newThing rfl rfl rfl kX4_newThing ⟨Nat.le_of_ble_eq_true rfl, Nat.le_of_ble_eq_true rfl⟩) [1, 2, 3, 4, 5, 6, 7, 8, 9, 10] rfl rfl rfl [true, false, false, false, false, false, false, false, false, false, false] ⟨rfl, trivial⟩ 11 rfl (by decide +kernel) rfl 0 rfl rfl rfl hl.1 rfl (Nat.le_of_ble_eq_true rfl) ⟨Nat.le_refl 0, Nat.le_refl 0⟩ dX0_addSnapshot_49 (fun H locs hP hD hS => ?_)
    refine lv_istore (lv' := [(4, .int v3), (0, .ref b), (1, .int x1), (2, .int x2)]) hx hb dX0_addSnapshot_52 hl (by decide) rfl (fun ls hl => ?_)
    refine lv_iload hx hb dX0_addSnapshot_54 (lv_at hl 0 rfl) ?_
    refine lv_bipush (v := (-4)) hx hb dX0_addSnapshot_56 (by decide) ?_
    refine lv_icmp_ne (tgt := 64) hx hb dX0_addSnapshot_58 (by decide) (fun c6 => ?_) (fun c6 => ?_)
    · have he := ifn he c6
      refine lv_aload_n hx hb dX0_addSnapshot_64 rfl (lv_at hl 1 rfl) ?_
      refine va_get (D := D) (ci := 0) (v := .ref (a 0)) (C := RX0) (T := TX0) (N := 1) hx hb hts iX0 hown hK hP 0 rfl rfl 0 (by decide) w1 (fun _ h9 => h9) rfl dX0_addSnapshot_65 ?_
      refine lv_iload_n hx hb dX0_addSnapshot_68 rfl (lv_at hl 2 rfl) ?_
      refine lv_iload hx hb dX0_addSnapshot_69 (lv_at hl 0 rfl) ?_
      obtain ⟨P7, h8, he⟩ := bn1_i he
      refine cVv (wf := (wActs k b a P7)) (As := [.int x1, .int v3]) (rest := []) ⟨hx, hb, hml, hown, hts⟩ hK hA hP hD hS (mX4_copySlots l D k a (P_0 := P4) h8) (cwV 2 hts gX0_addSnapshot_X4_copySlots rfl rfl rfl kX4_copySlots ⟨Nat.le_of_ble_eq_true rfl, Nat.le_of_ble_eq_true rfl⟩) [1, 2, 3, 4, 5, 6, 7, 8, 9, 10] rfl rfl rfl [true, false, false, false, false, false, false, false, false, false, false] ⟨rfl, trivial⟩ 11 rfl (by decide +kernel) rfl 0 rfl rfl rfl hl.1 rfl (Nat.le_of_ble_eq_true rfl) ⟨Nat.le_refl 0, Nat.le_refl 0⟩ dX0_addSnapshot_71 (fun H locs hP hD hS => ?_)
      refine lv_aload_n hx hb dX0_addSnapshot_74 rfl (lv_at hl 1 rfl) ?_
      refine va_get (D := D) (ci := 0) (v := .ref (a 0)) (C := RX0) (T := TX0) (N := 1) hx hb hts iX0 hown hK hP 0 rfl rfl 0 (by decide) w1 (fun _ h9 => h9) rfl dX0_addSnapshot_75 ?_
      refine lv_iload hx hb dX0_addSnapshot_78 (lv_at hl 0 rfl) ?_
      refine lv_aload_n hx hb dX0_addSnapshot_80 rfl (lv_at hl 1 rfl) ?_
      refine va_get (D := D) (ci := 0) (v := .ref (a 0)) (C := RX0) (T := TX0) (N := 1) hx hb hts iX0 hown hK hP 0 rfl rfl 0 (by decide) w1 (fun _ h9 => h9) rfl dX0_addSnapshot_81 ?_
      refine lv_iload_n hx hb dX0_addSnapshot_84 rfl (lv_at hl 2 rfl) ?_
      obtain ⟨v9, h10, he⟩ := bn1_i he
      refine cVir (As := [.int x1]) (rest := [.int v3, .ref (a 0)]) ⟨hx, hb, hml, hown, hts⟩ hK hA hP hD hS (mX4_prevOf l D k a (P := P7) h10) (cwV 1 hts gX0_addSnapshot_X4_prevOf rfl rfl rfl kX4_prevOf ⟨Nat.le_of_ble_eq_true rfl, Nat.le_of_ble_eq_true rfl⟩) [1, 2, 3, 4, 5, 6, 7, 8, 9, 10] rfl rfl 0 rfl rfl rfl hl.1 rfl (Nat.le_of_ble_eq_true rfl) ⟨Nat.le_refl 0, Nat.le_refl 0⟩ dX0_addSnapshot_85 (fun H locs hP hD hS => ?_)
      obtain ⟨P11, h12, he⟩ := bn1_i he
      refine cVv (wf := (wActs k b a P11)) (As := [.int v3, .int v9]) (rest := []) ⟨hx, hb, hml, hown, hts⟩ hK hA hP hD hS (mX4_setPrev l D k a (P_0 := P7) h12) (cwV 2 hts gX0_addSnapshot_X4_setPrev rfl rfl rfl kX4_setPrev ⟨Nat.le_of_ble_eq_true rfl, Nat.le_of_ble_eq_true rfl⟩) [1, 2, 3, 4, 5, 6, 7, 8, 9, 10] rfl rfl rfl [true, false, false, false, false, false, false, false, false, false, false] ⟨rfl, trivial⟩ 11 rfl (by decide +kernel) rfl 0 rfl rfl rfl hl.1 rfl (Nat.le_of_ble_eq_true rfl) ⟨Nat.le_refl 0, Nat.le_refl 0⟩ dX0_addSnapshot_88 (fun H locs hP hD hS => ?_)
      refine lv_aload_n hx hb dX0_addSnapshot_91 rfl (lv_at hl 1 rfl) ?_
      refine va_get (D := D) (ci := 0) (v := .ref (a 0)) (C := RX0) (T := TX0) (N := 1) hx hb hts iX0 hown hK hP 0 rfl rfl 0 (by decide) w1 (fun _ h9 => h9) rfl dX0_addSnapshot_92 ?_
      refine lv_iload hx hb dX0_addSnapshot_95 (lv_at hl 0 rfl) ?_
      refine lv_iload_n hx hb dX0_addSnapshot_97 rfl (lv_at hl 2 rfl) ?_
      obtain ⟨P13, h14, he⟩ := bn1_i he
      refine cVv (wf := (wActs k b a P13)) (As := [.int v3, .int x1]) (rest := []) ⟨hx, hb, hml, hown, hts⟩ hK hA hP hD hS (mX4_setOwner l D k a (P_0 := P11) h14) (cwV 2 hts gX0_addSnapshot_X4_setOwner rfl rfl rfl kX4_setOwner ⟨Nat.le_of_ble_eq_true rfl, Nat.le_of_ble_eq_true rfl⟩) [1, 2, 3, 4, 5, 6, 7, 8, 9, 10] rfl rfl rfl [true, false, false, false, false, false, false, false, false, false, false] ⟨rfl, trivial⟩ 11 rfl (by decide +kernel) rfl 0 rfl rfl rfl hl.1 rfl (Nat.le_of_ble_eq_true rfl) ⟨Nat.le_refl 0, Nat.le_refl 0⟩ dX0_addSnapshot_98 (fun H locs hP hD hS => ?_)
      refine lv_aload_n hx hb dX0_addSnapshot_101 rfl (lv_at hl 1 rfl) ?_
      refine va_get (D := D) (ci := 0) (v := .ref (a 0)) (C := RX0) (T := TX0) (N := 1) hx hb hts iX0 hown hK hP 0 rfl rfl 0 (by decide) w1 (fun _ h9 => h9) rfl dX0_addSnapshot_102 ?_
      refine lv_iload hx hb dX0_addSnapshot_105 (lv_at hl 0 rfl) ?_
      refine lv_iload_n hx hb dX0_addSnapshot_107 rfl (lv_at hl 3 rfl) ?_
      obtain ⟨P15, h16, he⟩ := bn1_i he
      refine cVv (wf := (wActs k b a P15)) (As := [.int v3, .int x2]) (rest := []) ⟨hx, hb, hml, hown, hts⟩ hK hA hP hD hS (mX4_setTags l D k a (P_0 := P13) h16) (cwV 2 hts gX0_addSnapshot_X4_setTags rfl rfl rfl kX4_setTags ⟨Nat.le_of_ble_eq_true rfl, Nat.le_of_ble_eq_true rfl⟩) [1, 2, 3, 4, 5, 6, 7, 8, 9, 10] rfl rfl rfl [true, false, false, false, false, false, false, false, false, false, false] ⟨rfl, trivial⟩ 11 rfl (by decide +kernel) rfl 0 rfl rfl rfl hl.1 rfl (Nat.le_of_ble_eq_true rfl) ⟨Nat.le_refl 0, Nat.le_refl 0⟩ dX0_addSnapshot_108 (fun H locs hP hD hS => ?_)
      refine lv_aload_n hx hb dX0_addSnapshot_111 rfl (lv_at hl 1 rfl) ?_
      refine va_get (D := D) (ci := 0) (v := .ref (a 0)) (C := RX0) (T := TX0) (N := 1) hx hb hts iX0 hown hK hP 0 rfl rfl 0 (by decide) w1 (fun _ h9 => h9) rfl dX0_addSnapshot_112 ?_
      refine lv_iload_n hx hb dX0_addSnapshot_115 rfl (lv_at hl 2 rfl) ?_
      refine lv_iload hx hb dX0_addSnapshot_116 (lv_at hl 0 rfl) ?_
      obtain ⟨P17, h18, he⟩ := bn1_i he
      refine cVv (wf := (wActs k b a P17)) (As := [.int x1, .int v3]) (rest := []) ⟨hx, hb, hml, hown, hts⟩ hK hA hP hD hS (mX4_setPrev l D k a (P_0 := P15) h18) (cwV 2 hts gX0_addSnapshot_X4_setPrev rfl rfl rfl kX4_setPrev ⟨Nat.le_of_ble_eq_true rfl, Nat.le_of_ble_eq_true rfl⟩) [1, 2, 3, 4, 5, 6, 7, 8, 9, 10] rfl rfl rfl [true, false, false, false, false, false, false, false, false, false, false] ⟨rfl, trivial⟩ 11 rfl (by decide +kernel) rfl 0 rfl rfl rfl hl.1 rfl (Nat.le_of_ble_eq_true rfl) ⟨Nat.le_refl 0, Nat.le_refl 0⟩ dX0_addSnapshot_118 (fun H locs hP hD hS => ?_)
      refine lv_aload_n hx hb dX0_addSnapshot_121 rfl (lv_at hl 1 rfl) ?_
      refine va_get (D := D) (ci := 0) (v := .ref (a 0)) (C := RX0) (T := TX0) (N := 1) hx hb hts iX0 hown hK hP 0 rfl rfl 0 (by decide) w1 (fun _ h9 => h9) rfl dX0_addSnapshot_122 ?_
      refine lv_aload_n hx hb dX0_addSnapshot_125 rfl (lv_at hl 1 rfl) ?_
      refine va_get (D := D) (ci := 0) (v := .ref (a 0)) (C := RX0) (T := TX0) (N := 1) hx hb hts iX0 hown hK hP 0 rfl rfl 0 (by decide) w1 (fun _ h9 => h9) rfl dX0_addSnapshot_126 ?_
      obtain ⟨v19, h20, he⟩ := bn1_i he
      refine cVir (As := []) (rest := [.ref (a 0)]) ⟨hx, hb, hml, hown, hts⟩ hK hA hP hD hS (mX4_now l D k a (P := P17) h20) (cwV 0 hts gX0_addSnapshot_X4_now rfl rfl rfl kX4_now ⟨Nat.le_of_ble_eq_true rfl, Nat.le_of_ble_eq_true rfl⟩) [1, 2, 3, 4, 5, 6, 7, 8, 9, 10] rfl rfl 0 rfl rfl rfl hl.1 rfl (Nat.le_of_ble_eq_true rfl) ⟨Nat.le_refl 0, Nat.le_refl 0⟩ dX0_addSnapshot_129 (fun H locs hP hD hS => ?_)
      refine lv_iconst (v := 1) hx hb dX0_addSnapshot_132 (by decide) ?_
      refine lv_iadd hx hb dX0_addSnapshot_133 ?_
      obtain ⟨P21, h22, he⟩ := bn1_i he
      refine cVv (wf := (wActs k b a P21)) (As := [.int (v19 + 1)]) (rest := []) ⟨hx, hb, hml, hown, hts⟩ hK hA hP hD hS (mX4_setTime l D k a (P_0 := P17) h22) (cwV 1 hts gX0_addSnapshot_X4_setTime rfl rfl rfl kX4_setTime ⟨Nat.le_of_ble_eq_true rfl, Nat.le_of_ble_eq_true rfl⟩) [1, 2, 3, 4, 5, 6, 7, 8, 9, 10] rfl rfl rfl [true, false, false, false, false, false, false, false, false, false, false] ⟨rfl, trivial⟩ 11 rfl (by decide +kernel) rfl 0 rfl rfl rfl hl.1 rfl (Nat.le_of_ble_eq_true rfl) ⟨Nat.le_refl 0, Nat.le_refl 0⟩ dX0_addSnapshot_134 (fun H locs hP hD hS => ?_)
      refine lv_iload hx hb dX0_addSnapshot_137 (lv_at hl 0 rfl) ?_
      obtain ⟨rfl, rfl⟩ := some2 he
      exact cRi hx hb hr hlk hK rfl hP hD hS dX0_addSnapshot_139
    · have he := ifp he c6
      refine lv_bipush (v := (-4)) hx hb dX0_addSnapshot_61 (by decide) ?_
      obtain ⟨rfl, rfl⟩ := some2 he
      exact cRi hx hb hr hlk hK rfl hP hD hS dX0_addSnapshot_63
  have hS0 := hS
  have key : ∀ (H : Heap) (locs : List Loc), H = ss.heap → locs = [] → va_P D vwCl (wActs k b a P_0) H → va_S (va_A (wActs k b a P_0) ss.heap.size) ss.heap H locs → W pp l ee ({ frames := 2, cells := 0, slots := 0, locals := 46 } : Room) ss mm ([.ref b, .int p1, .int p2] : List Value).toArray bl me co H locs 0 0 (MQ bl (cQi D k (wActs k b a P_0) ss.heap.size r (wActs k b a P')) ([.ref b, .int p1, .int p2] : List Value).toArray ss 0 0 (va_A (wActs k b a P_0) ss.heap.size)) (F0 mm 0 ls []) := by
    intro H locs _ _ hP hS
    refine lv_iload_n hx hb dX0_addSnapshot_0 rfl (lv_at hl 2 rfl) ?_
    refine lv_if_lt (tgt := 9) hx hb dX0_addSnapshot_1 (by decide) (fun c1001 => ?_) (fun c1001 => ?_)
    · have he := ifp he c1001
      refine lv_bipush (v := (-2)) hx hb dX0_addSnapshot_9 (by decide) ?_
      obtain ⟨rfl, rfl⟩ := some2 he
      exact cRi hx hb hr hlk hK rfl hP hD hS dX0_addSnapshot_11
    · have he := ifn he c1001
      refine lv_iload_n hx hb dX0_addSnapshot_4 rfl (lv_at hl 2 rfl) ?_
      refine lv_iconst (v := 1) hx hb dX0_addSnapshot_5 (by decide) ?_
      refine lv_icmp_le (tgt := 12) hx hb dX0_addSnapshot_6 (by decide) (fun c1002 => ?_) (fun c1002 => ?_)
      · have he := ifp he c1002
        refine lv_aload_n hx hb dX0_addSnapshot_12 rfl (lv_at hl 0 rfl) ?_
        refine va_get (D := D) (ci := 0) (v := .ref (a 0)) (C := RX0) (T := TX0) (N := 1) hx hb hts iX0 hown hK hP 0 rfl rfl 0 (by decide) w1 (fun _ h9 => h9) rfl dX0_addSnapshot_13 ?_
        refine lv_iload_n hx hb dX0_addSnapshot_16 rfl (lv_at hl 1 rfl) ?_
        refine lv_iconst (v := 0) hx hb dX0_addSnapshot_17 (by decide) ?_
        obtain ⟨v1003, h1004, he⟩ := bn1_i he
        refine cVir (As := [.int p1, .int 0]) (rest := []) ⟨hx, hb, hml, hown, hts⟩ hK hA hP hD hS (mX4_refusalAs l D k a (P := P_0) h1004) (cwV 2 hts gX0_addSnapshot_X4_refusalAs rfl rfl rfl kX4_refusalAs ⟨Nat.le_of_ble_eq_true rfl, Nat.le_of_ble_eq_true rfl⟩) [1, 2, 3, 4, 5, 6, 7, 8, 9, 10] rfl rfl 0 rfl rfl rfl hl.1 rfl (Nat.le_of_ble_eq_true rfl) ⟨Nat.le_refl 0, Nat.le_refl 0⟩ dX0_addSnapshot_18 (fun H locs hP hD hS => ?_)
        refine lv_istore_n (lv' := [(3, .int v1003), (0, .ref b), (1, .int p1), (2, .int p2)]) hx hb dX0_addSnapshot_21 rfl hl (by decide) rfl (fun ls hl => ?_)
        refine lv_iload_n hx hb dX0_addSnapshot_22 rfl (lv_at hl 0 rfl) ?_
        refine lv_if_eq (tgt := 28) hx hb dX0_addSnapshot_23 (by decide) (fun c1005 => ?_) (fun c1005 => ?_)
        · have he := ifp he c1005
          refine lv_aload_n hx hb dX0_addSnapshot_28 rfl (lv_at hl 1 rfl) ?_
          refine va_get (D := D) (ci := 0) (v := .ref (a 0)) (C := RX0) (T := TX0) (N := 1) hx hb hts iX0 hown hK hP 0 rfl rfl 0 (by decide) w1 (fun _ h9 => h9) rfl dX0_addSnapshot_29 ?_
          refine lv_iload_n hx hb dX0_addSnapshot_32 rfl (lv_at hl 3 rfl) ?_
          refine lv_iconst (v := 1) hx hb dX0_addSnapshot_33 (by decide) ?_
          refine lv_icmp_ne (tgt := 41) hx hb dX0_addSnapshot_34 (by decide) (fun c1006 => ?_) (fun c1006 => ?_)
          · have he := ifn he c1006
            refine lv_iconst (v := 2) hx hb dX0_addSnapshot_41 (by decide) ?_
            exact B42 p1 p2 2 P_0 he H locs hP hD hS ls (lv_sub hl [1, 2, 3] rfl)
          · have he := ifp he c1006
            refine lv_iconst (v := 3) hx hb dX0_addSnapshot_37 (by decide) ?_
            refine lv_goto (tgt := 42) hx hb dX0_addSnapshot_38 (by decide) ?_
            exact B42 p1 p2 3 P_0 he H locs hP hD hS ls (lv_sub hl [1, 2, 3] rfl)
        · have he := ifn he c1005
          refine lv_iload_n hx hb dX0_addSnapshot_26 rfl (lv_at hl 0 rfl) ?_
          obtain ⟨rfl, rfl⟩ := some2 he
          exact cRi hx hb hr hlk hK rfl hP hD hS dX0_addSnapshot_27
      · have he := ifn he c1002
        refine lv_bipush (v := (-2)) hx hb dX0_addSnapshot_9 (by decide) ?_
        obtain ⟨rfl, rfl⟩ := some2 he
        exact cRi hx hb hr hlk hK rfl hP hD hS dX0_addSnapshot_11
  exact key ss.heap [] rfl rfl hP hS
theorem kX0_changeTags : yX0_changeTags.cls = RX0 ∧ yX0_changeTags.cls ≠ "java/lang/invoke/MethodHandle" ∧ yX0_changeTags.cls ≠ "java/lang/invoke/VarHandle" ∧ (parseMethodDescriptor yX0_changeTags.desc).map (fun d => d.parameters.length) = some 2 := by decide +kernel
set_option maxRecDepth 100000 in
set_option maxHeartbeats 4000000 in
theorem mX0_changeTags (l : Launch) (D : va_G) (k : Nat → ClassId) (b : Nat) (a : Nat → Nat) {P_0 : Nat → Nat → Int32} {p1 : Int32} {p2 : Int32} {r : Int32} {P' : Nat → Nat → Int32} (he : xX0_changeTags P_0 p1 p2 = some (r, P')) : CtI l D k yX0_changeTags wsX0_changeTags ({ frames := 2, cells := 0, slots := 0, locals := 46 } : Room) [.ref b, .int p1, .int p2] (wActs k b a P_0) r (wActs k b a P') := by
  intro sz9
  refine cSt (lv := [(0, .ref b), (1, .int p1), (2, .int p2)]) (own := RX0) (cc := cX0_changeTags) (nL := 5) (ret := (some .int)) (by decide +kernel) rfl rfl (Nat.le_of_ble_eq_true rfl) rfl ?_
  intro pp ee ss mm bl me co hsz hC0 hP hD hS ls hl
  subst hsz
  obtain ⟨hx, hb, hr, hml, hown, hts, hK, hlk⟩ := hC0
  have hA : ∀ q, ss.heap.size ≤ q → va_A (wActs k b a P_0) ss.heap.size q := fun q h => Or.inr h
  have iX0 : ∀ w ∈ wsX00, w ∈ wsX0_changeTags := fun _ h => List.mem_cons_of_mem _ (List.mem_append_left _ (List.mem_append_right _ h))
  have w1 := hts (.fieldLink RX0 9 "DeadListPool$Acts" "pool" "LDeadListPool$Pool;") (List.mem_of_getElem? (i := 1) rfl)
  have hS0 := hS
  have key : ∀ (H : Heap) (locs : List Loc), H = ss.heap → locs = [] → va_P D vwCl (wActs k b a P_0) H → va_S (va_A (wActs k b a P_0) ss.heap.size) ss.heap H locs → W pp l ee ({ frames := 2, cells := 0, slots := 0, locals := 46 } : Room) ss mm ([.ref b, .int p1, .int p2] : List Value).toArray bl me co H locs 0 0 (MQ bl (cQi D k (wActs k b a P_0) ss.heap.size r (wActs k b a P')) ([.ref b, .int p1, .int p2] : List Value).toArray ss 0 0 (va_A (wActs k b a P_0) ss.heap.size)) (F0 mm 0 ls []) := by
    intro H locs _ _ hP hS
    refine lv_iload_n hx hb dX0_changeTags_0 rfl (lv_at hl 2 rfl) ?_
    refine lv_if_lt (tgt := 10) hx hb dX0_changeTags_1 (by decide) (fun c1001 => ?_) (fun c1001 => ?_)
    · have he := ifp he c1001
      refine lv_bipush (v := (-2)) hx hb dX0_changeTags_10 (by decide) ?_
      obtain ⟨rfl, rfl⟩ := some2 he
      exact cRi hx hb hr hlk hK rfl hP hD hS dX0_changeTags_12
    · have he := ifn he c1001
      refine lv_iload_n hx hb dX0_changeTags_4 rfl (lv_at hl 2 rfl) ?_
      refine lv_bipush (v := 9) hx hb dX0_changeTags_5 (by decide) ?_
      refine lv_icmp_le (tgt := 13) hx hb dX0_changeTags_7 (by decide) (fun c1002 => ?_) (fun c1002 => ?_)
      · have he := ifp he c1002
        refine lv_aload_n hx hb dX0_changeTags_13 rfl (lv_at hl 0 rfl) ?_
        refine va_get (D := D) (ci := 0) (v := .ref (a 0)) (C := RX0) (T := TX0) (N := 1) hx hb hts iX0 hown hK hP 0 rfl rfl 0 (by decide) w1 (fun _ h9 => h9) rfl dX0_changeTags_14 ?_
        refine lv_iload_n hx hb dX0_changeTags_17 rfl (lv_at hl 1 rfl) ?_
        refine lv_iconst (v := 3) hx hb dX0_changeTags_18 (by decide) ?_
        obtain ⟨v1003, h1004, he⟩ := bn1_i he
        refine cVir (As := [.int p1, .int 3]) (rest := []) ⟨hx, hb, hml, hown, hts⟩ hK hA hP hD hS (mX4_refusalAs l D k a (P := P_0) h1004) (cwV 2 hts gX0_changeTags_X4_refusalAs rfl rfl rfl kX4_refusalAs ⟨Nat.le_of_ble_eq_true rfl, Nat.le_of_ble_eq_true rfl⟩) [1, 2, 3, 4, 5, 6, 7, 8, 9, 10] rfl rfl 0 rfl rfl rfl hl.1 rfl (Nat.le_of_ble_eq_true rfl) ⟨Nat.le_refl 0, Nat.le_refl 0⟩ dX0_changeTags_19 (fun H locs hP hD hS => ?_)
        refine lv_istore_n (lv' := [(3, .int v1003), (0, .ref b), (1, .int p1), (2, .int p2)]) hx hb dX0_changeTags_22 rfl hl (by decide) rfl (fun ls hl => ?_)
        refine lv_iload_n hx hb dX0_changeTags_23 rfl (lv_at hl 0 rfl) ?_
        refine lv_if_eq (tgt := 29) hx hb dX0_changeTags_24 (by decide) (fun c1005 => ?_) (fun c1005 => ?_)
        · have he := ifp he c1005
          refine lv_aload_n hx hb dX0_changeTags_29 rfl (lv_at hl 1 rfl) ?_
          refine va_get (D := D) (ci := 0) (v := .ref (a 0)) (C := RX0) (T := TX0) (N := 1) hx hb hts iX0 hown hK hP 0 rfl rfl 0 (by decide) w1 (fun _ h9 => h9) rfl dX0_changeTags_30 ?_
          refine lv_iload_n hx hb dX0_changeTags_33 rfl (lv_at hl 2 rfl) ?_
          obtain ⟨v1006, h1007, he⟩ := bn1_i he
          refine cVir (As := [.int p1]) (rest := []) ⟨hx, hb, hml, hown, hts⟩ hK hA hP hD hS (mX4_tagsOf l D k a (P := P_0) h1007) (cwV 1 hts gX0_changeTags_X4_tagsOf rfl rfl rfl kX4_tagsOf ⟨Nat.le_of_ble_eq_true rfl, Nat.le_of_ble_eq_true rfl⟩) [1, 2, 3, 4, 5, 6, 7, 8, 9, 10] rfl rfl 0 rfl rfl rfl hl.1 rfl (Nat.le_of_ble_eq_true rfl) ⟨Nat.le_refl 0, Nat.le_refl 0⟩ dX0_changeTags_34 (fun H locs hP hD hS => ?_)
          refine lv_istore (lv' := [(4, .int v1006), (3, .int v1003), (0, .ref b), (1, .int p1), (2, .int p2)]) hx hb dX0_changeTags_37 hl (by decide) rfl (fun ls hl => ?_)
          refine lv_aload_n hx hb dX0_changeTags_39 rfl (lv_at hl 2 rfl) ?_
          refine va_get (D := D) (ci := 0) (v := .ref (a 0)) (C := RX0) (T := TX0) (N := 1) hx hb hts iX0 hown hK hP 0 rfl rfl 0 (by decide) w1 (fun _ h9 => h9) rfl dX0_changeTags_40 ?_
          refine lv_iload_n hx hb dX0_changeTags_43 rfl (lv_at hl 3 rfl) ?_
          refine lv_iload_n hx hb dX0_changeTags_44 rfl (lv_at hl 4 rfl) ?_
          obtain ⟨P1008, h1009, he⟩ := bn1_i he
          refine cVv (wf := (wActs k b a P1008)) (As := [.int p1, .int p2]) (rest := []) ⟨hx, hb, hml, hown, hts⟩ hK hA hP hD hS (mX4_setTags l D k a (P_0 := P_0) h1009) (cwV 2 hts gX0_changeTags_X4_setTags rfl rfl rfl kX4_setTags ⟨Nat.le_of_ble_eq_true rfl, Nat.le_of_ble_eq_true rfl⟩) [1, 2, 3, 4, 5, 6, 7, 8, 9, 10] rfl rfl rfl [true, false, false, false, false, false, false, false, false, false, false] ⟨rfl, trivial⟩ 11 rfl (by decide +kernel) rfl 0 rfl rfl rfl hl.1 rfl (Nat.le_of_ble_eq_true rfl) ⟨Nat.le_refl 0, Nat.le_refl 0⟩ dX0_changeTags_45 (fun H locs hP hD hS => ?_)
          refine lv_iload hx hb dX0_changeTags_48 (lv_at hl 0 rfl) ?_
          obtain ⟨rfl, rfl⟩ := some2 he
          exact cRi hx hb hr hlk hK rfl hP hD hS dX0_changeTags_50
        · have he := ifn he c1005
          refine lv_iload_n hx hb dX0_changeTags_27 rfl (lv_at hl 0 rfl) ?_
          obtain ⟨rfl, rfl⟩ := some2 he
          exact cRi hx hb hr hlk hK rfl hP hD hS dX0_changeTags_28
      · have he := ifn he c1002
        refine lv_bipush (v := (-2)) hx hb dX0_changeTags_10 (by decide) ?_
        obtain ⟨rfl, rfl⟩ := some2 he
        exact cRi hx hb hr hlk hK rfl hP hD hS dX0_changeTags_12
  exact key ss.heap [] rfl rfl hP hS
theorem kX0_addBookmark : yX0_addBookmark.cls = RX0 ∧ yX0_addBookmark.cls ≠ "java/lang/invoke/MethodHandle" ∧ yX0_addBookmark.cls ≠ "java/lang/invoke/VarHandle" ∧ (parseMethodDescriptor yX0_addBookmark.desc).map (fun d => d.parameters.length) = some 1 := by decide +kernel
set_option maxRecDepth 100000 in
set_option maxHeartbeats 4000000 in
theorem mX0_addBookmark (l : Launch) (D : va_G) (k : Nat → ClassId) (b : Nat) (a : Nat → Nat) {P_0 : Nat → Nat → Int32} {p1 : Int32} {r : Int32} {P' : Nat → Nat → Int32} (he : xX0_addBookmark P_0 p1 = some (r, P')) : CtI l D k yX0_addBookmark wsX0_addBookmark ({ frames := 2, cells := 0, slots := 0, locals := 46 } : Room) [.ref b, .int p1] (wActs k b a P_0) r (wActs k b a P') := by
  intro sz9
  refine cSt (lv := [(0, .ref b), (1, .int p1)]) (own := RX0) (cc := cX0_addBookmark) (nL := 3) (ret := (some .int)) (by decide +kernel) rfl rfl (Nat.le_of_ble_eq_true rfl) rfl ?_
  intro pp ee ss mm bl me co hsz hC0 hP hD hS ls hl
  subst hsz
  obtain ⟨hx, hb, hr, hml, hown, hts, hK, hlk⟩ := hC0
  have hA : ∀ q, ss.heap.size ≤ q → va_A (wActs k b a P_0) ss.heap.size q := fun q h => Or.inr h
  have iX0 : ∀ w ∈ wsX00, w ∈ wsX0_addBookmark := fun _ h => List.mem_cons_of_mem _ (List.mem_append_left _ (List.mem_append_right _ h))
  have w1 := hts (.fieldLink RX0 9 "DeadListPool$Acts" "pool" "LDeadListPool$Pool;") (List.mem_of_getElem? (i := 1) rfl)
  have hS0 := hS
  have key : ∀ (H : Heap) (locs : List Loc), H = ss.heap → locs = [] → va_P D vwCl (wActs k b a P_0) H → va_S (va_A (wActs k b a P_0) ss.heap.size) ss.heap H locs → W pp l ee ({ frames := 2, cells := 0, slots := 0, locals := 46 } : Room) ss mm ([.ref b, .int p1] : List Value).toArray bl me co H locs 0 0 (MQ bl (cQi D k (wActs k b a P_0) ss.heap.size r (wActs k b a P')) ([.ref b, .int p1] : List Value).toArray ss 0 0 (va_A (wActs k b a P_0) ss.heap.size)) (F0 mm 0 ls []) := by
    intro H locs _ _ hP hS
    refine lv_aload_n hx hb dX0_addBookmark_0 rfl (lv_at hl 0 rfl) ?_
    refine va_get (D := D) (ci := 0) (v := .ref (a 0)) (C := RX0) (T := TX0) (N := 1) hx hb hts iX0 hown hK hP 0 rfl rfl 0 (by decide) w1 (fun _ h9 => h9) rfl dX0_addBookmark_1 ?_
    refine lv_iload_n hx hb dX0_addBookmark_4 rfl (lv_at hl 1 rfl) ?_
    refine lv_iconst (v := 2) hx hb dX0_addBookmark_5 (by decide) ?_
    obtain ⟨v1001, h1002, he⟩ := bn1_i he
    refine cVir (As := [.int p1, .int 2]) (rest := []) ⟨hx, hb, hml, hown, hts⟩ hK hA hP hD hS (mX4_refusalAs l D k a (P := P_0) h1002) (cwV 2 hts gX0_addBookmark_X4_refusalAs rfl rfl rfl kX4_refusalAs ⟨Nat.le_of_ble_eq_true rfl, Nat.le_of_ble_eq_true rfl⟩) [1, 2, 3, 4, 5, 6, 7, 8, 9, 10] rfl rfl 0 rfl rfl rfl hl.1 rfl (Nat.le_of_ble_eq_true rfl) ⟨Nat.le_refl 0, Nat.le_refl 0⟩ dX0_addBookmark_6 (fun H locs hP hD hS => ?_)
    refine lv_istore_n (lv' := [(2, .int v1001), (0, .ref b), (1, .int p1)]) hx hb dX0_addBookmark_9 rfl hl (by decide) rfl (fun ls hl => ?_)
    refine lv_iload_n hx hb dX0_addBookmark_10 rfl (lv_at hl 0 rfl) ?_
    refine lv_if_eq (tgt := 18) hx hb dX0_addBookmark_11 (by decide) (fun c1003 => ?_) (fun c1003 => ?_)
    · have he := ifp he c1003
      refine lv_aload_n hx hb dX0_addBookmark_18 rfl (lv_at hl 1 rfl) ?_
      refine va_get (D := D) (ci := 0) (v := .ref (a 0)) (C := RX0) (T := TX0) (N := 1) hx hb hts iX0 hown hK hP 0 rfl rfl 0 (by decide) w1 (fun _ h9 => h9) rfl dX0_addBookmark_19 ?_
      refine lv_iconst (v := 4) hx hb dX0_addBookmark_22 (by decide) ?_
      refine lv_aload_n hx hb dX0_addBookmark_23 rfl (lv_at hl 1 rfl) ?_
      refine va_get (D := D) (ci := 0) (v := .ref (a 0)) (C := RX0) (T := TX0) (N := 1) hx hb hts iX0 hown hK hP 0 rfl rfl 0 (by decide) w1 (fun _ h9 => h9) rfl dX0_addBookmark_24 ?_
      refine lv_iload_n hx hb dX0_addBookmark_27 rfl (lv_at hl 2 rfl) ?_
      obtain ⟨v1004, h1005, he⟩ := bn1_i he
      refine cVir (As := [.int p1]) (rest := [.int 4, .ref (a 0)]) ⟨hx, hb, hml, hown, hts⟩ hK hA hP hD hS (mX4_madeOf l D k a (P := P_0) h1005) (cwV 1 hts gX0_addBookmark_X4_madeOf rfl rfl rfl kX4_madeOf ⟨Nat.le_of_ble_eq_true rfl, Nat.le_of_ble_eq_true rfl⟩) [1, 2, 3, 4, 5, 6, 7, 8, 9, 10] rfl rfl 0 rfl rfl rfl hl.1 rfl (Nat.le_of_ble_eq_true rfl) ⟨Nat.le_refl 0, Nat.le_refl 0⟩ dX0_addBookmark_28 (fun H locs hP hD hS => ?_)
      obtain ⟨v1006, P1007, h1008, he⟩ := bn2_i he
      refine cVi (wf := (wActs k b a P1007)) (As := [.int 4, .int v1004]) (rest := []) ⟨hx, hb, hml, hown, hts⟩ hK hA hP hD hS (mX4_newThing l D k a (P_0 := P_0) h1008) (cwV 2 hts gX0_addBookmark_X4_newThing rfl rfl rfl kX4_newThing ⟨Nat.le_of_ble_eq_true rfl, Nat.le_of_ble_eq_true rfl⟩) [1, 2, 3, 4, 5, 6, 7, 8, 9, 10] rfl rfl rfl [true, false, false, false, false, false, false, false, false, false, false] ⟨rfl, trivial⟩ 11 rfl (by decide +kernel) rfl 0 rfl rfl rfl hl.1 rfl (Nat.le_of_ble_eq_true rfl) ⟨Nat.le_refl 0, Nat.le_refl 0⟩ dX0_addBookmark_31 (fun H locs hP hD hS => ?_)
      obtain ⟨rfl, rfl⟩ := some2 he
      exact cRi hx hb hr hlk hK rfl hP hD hS dX0_addBookmark_34
    · have he := ifn he c1003
      refine lv_iload_n hx hb dX0_addBookmark_14 rfl (lv_at hl 0 rfl) ?_
      refine lv_goto (tgt := 34) hx hb dX0_addBookmark_15 (by decide) ?_
      obtain ⟨rfl, rfl⟩ := some2 he
      exact cRi hx hb hr hlk hK rfl hP hD hS dX0_addBookmark_34
  exact key ss.heap [] rfl rfl hP hS
theorem kX0_removeSnapshot : yX0_removeSnapshot.cls = RX0 ∧ yX0_removeSnapshot.cls ≠ "java/lang/invoke/MethodHandle" ∧ yX0_removeSnapshot.cls ≠ "java/lang/invoke/VarHandle" ∧ (parseMethodDescriptor yX0_removeSnapshot.desc).map (fun d => d.parameters.length) = some 1 := by decide +kernel
set_option maxRecDepth 100000 in
set_option maxHeartbeats 4000000 in
theorem mX0_removeSnapshot (l : Launch) (D : va_G) (k : Nat → ClassId) (b : Nat) (a : Nat → Nat) {P_0 : Nat → Nat → Int32} {p1 : Int32} {r : Int32} {P' : Nat → Nat → Int32} (he : xX0_removeSnapshot P_0 p1 = some (r, P')) : CtI l D k yX0_removeSnapshot wsX0_removeSnapshot ({ frames := 1, cells := 0, slots := 0, locals := 22 } : Room) [.ref b, .int p1] (wActs k b a P_0) r (wActs k b a P') := by
  intro sz9
  refine cSt (lv := [(0, .ref b), (1, .int p1)]) (own := RX0) (cc := cX0_removeSnapshot) (nL := 8) (ret := (some .int)) (by decide +kernel) rfl rfl (Nat.le_of_ble_eq_true rfl) rfl ?_
  intro pp ee ss mm bl me co hsz hC0 hP hD hS ls hl
  subst hsz
  obtain ⟨hx, hb, hr, hml, hown, hts, hK, hlk⟩ := hC0
  have hA : ∀ q, ss.heap.size ≤ q → va_A (wActs k b a P_0) ss.heap.size q := fun q h => Or.inr h
  have iX0 : ∀ w ∈ wsX00, w ∈ wsX0_removeSnapshot := fun _ h => List.mem_cons_of_mem _ (List.mem_append_left _ (List.mem_append_right _ h))
  have w1 := hts (.fieldLink RX0 9 "DeadListPool$Acts" "pool" "LDeadListPool$Pool;") (List.mem_of_getElem? (i := 1) rfl)
  have B24 : ∀ (n24 : Nat) (x1 : Int32) (x2 : Int32) (x3 : Int32) (x4 : Int32) (x5 : Int32) (P : Nat → Nat → Int32), xX0_removeSnapshot_24 n24 x1 x2 x3 x4 x5 P = some (r, P') → ∀ (H : Heap) (locs : List Loc), va_P D vwCl (wActs k b a P) H → va_D (va_A (wActs k b a P_0) ss.heap.size) (wActs k b a P) → va_S (va_A (wActs k b a P_0) ss.heap.size) ss.heap H locs → ∀ ls : Array Slot, lv_has ls 8 [(0, .ref b), (1, .int x1), (2, .int x2), (3, .int x3), (4, .int x4), (5, .int x5)] → W pp l ee ({ frames := 1, cells := 0, slots := 0, locals := 22 } : Room) ss mm ([.ref b, .int p1] : List Value).toArray bl me co H locs 0 0 (MQ bl (cQi D k (wActs k b a P_0) ss.heap.size r (wActs k b a P')) ([.ref b, .int p1] : List Value).toArray ss 0 0 (va_A (wActs k b a P_0) ss.heap.size)) (F0 mm 24 ls []) := by
    intro n24
    induction n24 with
    | zero =>
      intro x1 x2 x3 x4 x5 P he
      exact absurd (show (none : Option (Int32 × (Nat → Nat → Int32))) = some (r, P') from he) (by simp)
    | succ n24 ih24 =>
      have B69 : ∀ (x1 : Int32) (x2 : Int32) (x3 : Int32) (x4 : Int32) (x5 : Int32) (x6 : Int32) (y0 : Int32) (P : Nat → Nat → Int32), xX0_removeSnapshot_69 (xX0_removeSnapshot_24 n24) x1 x2 x3 x4 x5 x6 y0 P = some (r, P') → ∀ (H : Heap) (locs : List Loc), va_P D vwCl (wActs k b a P) H → va_D (va_A (wActs k b a P_0) ss.heap.size) (wActs k b a P) → va_S (va_A (wActs k b a P_0) ss.heap.size) ss.heap H locs → ∀ ls : Array Slot, lv_has ls 8 [(0, .ref b), (1, .int x1), (2, .int x2), (3, .int x3), (4, .int x4), (5, .int x5), (6, .int x6)] → W pp l ee ({ frames := 1, cells := 0, slots := 0, locals := 22 } : Room) ss mm ([.ref b, .int p1] : List Value).toArray bl me co H locs 0 0 (MQ bl (cQi D k (wActs k b a P_0) ss.heap.size r (wActs k b a P')) ([.ref b, .int p1] : List Value).toArray ss 0 0 (va_A (wActs k b a P_0) ss.heap.size)) (F0 mm 69 ls [.int y0]) := by
        intro x1 x2 x3 x4 x5 x6 y0 P he H locs hP hD hS ls hl
        refine lv_istore (lv' := [(7, .int y0), (0, .ref b), (1, .int x1), (2, .int x2), (3, .int x3), (4, .int x4), (5, .int x5), (6, .int x6)]) hx hb dX0_removeSnapshot_69 hl (by decide) rfl (fun ls hl => ?_)
        refine lv_iload hx hb dX0_removeSnapshot_71 (lv_at hl 0 rfl) ?_
        refine lv_if_eq (tgt := 108) hx hb dX0_removeSnapshot_73 (by decide) (fun c1 => ?_) (fun c1 => ?_)
        · have he := ifp he c1
          refine lv_iinc (v := (x5 + 1)) (lv' := [(5, .int (x5 + 1)), (7, .int y0), (0, .ref b), (1, .int x1), (2, .int x2), (3, .int x3), (4, .int x4), (6, .int x6)]) hx hb dX0_removeSnapshot_108 hl (k := 6) rfl rfl (by decide) rfl (fun ls hl => ?_)
          refine lv_goto (tgt := 24) hx hb dX0_removeSnapshot_111 (by decide) ?_
          exact ih24 x1 x2 x3 x4 (x5 + 1) P he H locs hP hD hS ls (lv_sub hl [2, 3, 4, 5, 6, 0] rfl)
        · have he := ifn he c1
          refine lv_aload_n hx hb dX0_removeSnapshot_76 rfl (lv_at hl 1 rfl) ?_
          refine va_get (D := D) (ci := 0) (v := .ref (a 0)) (C := RX0) (T := TX0) (N := 1) hx hb hts iX0 hown hK hP 0 rfl rfl 0 (by decide) w1 (fun _ h9 => h9) rfl dX0_removeSnapshot_77 ?_
          refine lv_iload hx hb dX0_removeSnapshot_80 (lv_at hl 7 rfl) ?_
          obtain ⟨v2, h3, he⟩ := bn1_i he
          refine cVir (As := [.int x6]) (rest := []) ⟨hx, hb, hml, hown, hts⟩ hK hA hP hD hS (mX4_birthOf l D k a (P := P) h3) (cwV 1 hts gX0_removeSnapshot_X4_birthOf rfl rfl rfl kX4_birthOf ⟨Nat.le_of_ble_eq_true rfl, Nat.le_of_ble_eq_true rfl⟩) [1, 2, 3, 4, 5, 6, 7, 8, 9, 10] rfl rfl 0 rfl rfl rfl hl.1 rfl (Nat.le_of_ble_eq_true rfl) ⟨Nat.le_refl 0, Nat.le_refl 0⟩ dX0_removeSnapshot_82 (fun H locs hP hD hS => ?_)
          refine lv_aload_n hx hb dX0_removeSnapshot_85 rfl (lv_at hl 1 rfl) ?_
          refine va_get (D := D) (ci := 0) (v := .ref (a 0)) (C := RX0) (T := TX0) (N := 1) hx hb hts iX0 hown hK hP 0 rfl rfl 0 (by decide) w1 (fun _ h9 => h9) rfl dX0_removeSnapshot_86 ?_
          refine lv_iload_n hx hb dX0_removeSnapshot_89 rfl (lv_at hl 4 rfl) ?_
          obtain ⟨v4, h5, he⟩ := bn1_i he
          refine cVir (As := [.int x3]) (rest := [.int v2]) ⟨hx, hb, hml, hown, hts⟩ hK hA hP hD hS (mX4_madeOf l D k a (P := P) h5) (cwV 1 hts gX0_removeSnapshot_X4_madeOf rfl rfl rfl kX4_madeOf ⟨Nat.le_of_ble_eq_true rfl, Nat.le_of_ble_eq_true rfl⟩) [1, 2, 3, 4, 5, 6, 7, 8, 9, 10] rfl rfl 0 rfl rfl rfl hl.1 rfl (Nat.le_of_ble_eq_true rfl) ⟨Nat.le_refl 0, Nat.le_refl 0⟩ dX0_removeSnapshot_90 (fun H locs hP hD hS => ?_)
          refine lv_icmp_le (tgt := 108) hx hb dX0_removeSnapshot_93 (by decide) (fun c6 => ?_) (fun c6 => ?_)
          · have he := ifp he c6
            refine lv_iinc (v := (x5 + 1)) (lv' := [(5, .int (x5 + 1)), (7, .int y0), (0, .ref b), (1, .int x1), (2, .int x2), (3, .int x3), (4, .int x4), (6, .int x6)]) hx hb dX0_removeSnapshot_108 hl (k := 6) rfl rfl (by decide) rfl (fun ls hl => ?_)
            refine lv_goto (tgt := 24) hx hb dX0_removeSnapshot_111 (by decide) ?_
            exact ih24 x1 x2 x3 x4 (x5 + 1) P he H locs hP hD hS ls (lv_sub hl [2, 3, 4, 5, 6, 0] rfl)
          · have he := ifn he c6
            refine lv_aload_n hx hb dX0_removeSnapshot_96 rfl (lv_at hl 1 rfl) ?_
            refine va_get (D := D) (ci := 0) (v := .ref (a 0)) (C := RX0) (T := TX0) (N := 1) hx hb hts iX0 hown hK hP 0 rfl rfl 0 (by decide) w1 (fun _ h9 => h9) rfl dX0_removeSnapshot_97 ?_
            refine lv_iload hx hb dX0_removeSnapshot_100 (lv_at hl 7 rfl) ?_
            obtain ⟨P7, h8, he⟩ := bn1_i he
            refine cVv (wf := (wActs k b a P7)) (As := [.int x6]) (rest := []) ⟨hx, hb, hml, hown, hts⟩ hK hA hP hD hS (mX4_freeBlock l D k a (P_0 := P) h8) (cwV 1 hts gX0_removeSnapshot_X4_freeBlock rfl rfl rfl kX4_freeBlock ⟨Nat.le_of_ble_eq_true rfl, Nat.le_of_ble_eq_true rfl⟩) [1, 2, 3, 4, 5, 6, 7, 8, 9, 10] rfl rfl rfl [true, false, false, false, false, false, false, false, false, false, false] ⟨rfl, trivial⟩ 11 rfl (by decide +kernel) rfl 0 rfl rfl rfl hl.1 rfl (Nat.le_of_ble_eq_true rfl) ⟨Nat.le_refl 0, Nat.le_refl 0⟩ dX0_removeSnapshot_102 (fun H locs hP hD hS => ?_)
            refine lv_iinc (v := (x4 + 1)) (lv' := [(4, .int (x4 + 1)), (7, .int y0), (0, .ref b), (1, .int x1), (2, .int x2), (3, .int x3), (5, .int x5), (6, .int x6)]) hx hb dX0_removeSnapshot_105 hl (k := 5) rfl rfl (by decide) rfl (fun ls hl => ?_)
            refine lv_iinc (v := (x5 + 1)) (lv' := [(5, .int (x5 + 1)), (4, .int (x4 + 1)), (7, .int y0), (0, .ref b), (1, .int x1), (2, .int x2), (3, .int x3), (6, .int x6)]) hx hb dX0_removeSnapshot_108 hl (k := 6) rfl rfl (by decide) rfl (fun ls hl => ?_)
            refine lv_goto (tgt := 24) hx hb dX0_removeSnapshot_111 (by decide) ?_
            exact ih24 x1 x2 x3 (x4 + 1) (x5 + 1) P7 he H locs hP hD hS ls (lv_sub hl [3, 4, 5, 6, 1, 0] rfl)
      intro x1 x2 x3 x4 x5 P he H locs hP hD hS ls hl
      refine lv_iload hx hb dX0_removeSnapshot_24 (lv_at hl 5 rfl) ?_
      refine lv_bipush (v := 12) hx hb dX0_removeSnapshot_26 (by decide) ?_
      refine lv_icmp_ge (tgt := 114) hx hb dX0_removeSnapshot_28 (by decide) (fun c9 => ?_) (fun c9 => ?_)
      · have he := ifp he c9
        refine lv_aload_n hx hb dX0_removeSnapshot_114 rfl (lv_at hl 0 rfl) ?_
        refine va_get (D := D) (ci := 0) (v := .ref (a 0)) (C := RX0) (T := TX0) (N := 1) hx hb hts iX0 hown hK hP 0 rfl rfl 0 (by decide) w1 (fun _ h9 => h9) rfl dX0_removeSnapshot_115 ?_
        refine lv_iload_n hx hb dX0_removeSnapshot_118 rfl (lv_at hl 2 rfl) ?_
        refine lv_iload_n hx hb dX0_removeSnapshot_119 rfl (lv_at hl 3 rfl) ?_
        obtain ⟨P10, h11, he⟩ := bn1_i he
        refine cVv (wf := (wActs k b a P10)) (As := [.int x2, .int x3]) (rest := []) ⟨hx, hb, hml, hown, hts⟩ hK hA hP hD hS (mX4_setPrev l D k a (P_0 := P) h11) (cwV 2 hts gX0_removeSnapshot_X4_setPrev rfl rfl rfl kX4_setPrev ⟨Nat.le_of_ble_eq_true rfl, Nat.le_of_ble_eq_true rfl⟩) [1, 2, 3, 4, 5, 6, 7, 8, 9, 10] rfl rfl rfl [true, false, false, false, false, false, false, false, false, false, false] ⟨rfl, trivial⟩ 11 rfl (by decide +kernel) rfl 0 rfl rfl rfl hl.1 rfl (Nat.le_of_ble_eq_true rfl) ⟨Nat.le_refl 0, Nat.le_refl 0⟩ dX0_removeSnapshot_120 (fun H locs hP hD hS => ?_)
        refine lv_aload_n hx hb dX0_removeSnapshot_123 rfl (lv_at hl 0 rfl) ?_
        refine va_get (D := D) (ci := 0) (v := .ref (a 0)) (C := RX0) (T := TX0) (N := 1) hx hb hts iX0 hown hK hP 0 rfl rfl 0 (by decide) w1 (fun _ h9 => h9) rfl dX0_removeSnapshot_124 ?_
        refine lv_iload_n hx hb dX0_removeSnapshot_127 rfl (lv_at hl 1 rfl) ?_
        obtain ⟨P12, h13, he⟩ := bn1_i he
        refine cVv (wf := (wActs k b a P12)) (As := [.int x1]) (rest := []) ⟨hx, hb, hml, hown, hts⟩ hK hA hP hD hS (mX4_dropThing l D k a (P_0 := P10) h13) (cwV 1 hts gX0_removeSnapshot_X4_dropThing rfl rfl rfl kX4_dropThing ⟨Nat.le_of_ble_eq_true rfl, Nat.le_of_ble_eq_true rfl⟩) [1, 2, 3, 4, 5, 6, 7, 8, 9, 10] rfl rfl rfl [true, false, false, false, false, false, false, false, false, false, false] ⟨rfl, trivial⟩ 11 rfl (by decide +kernel) rfl 0 rfl rfl rfl hl.1 rfl (Nat.le_of_ble_eq_true rfl) ⟨Nat.le_refl 0, Nat.le_refl 0⟩ dX0_removeSnapshot_128 (fun H locs hP hD hS => ?_)
        refine lv_iload hx hb dX0_removeSnapshot_131 (lv_at hl 4 rfl) ?_
        obtain ⟨rfl, rfl⟩ := some2 he
        exact cRi hx hb hr hlk hK rfl hP hD hS dX0_removeSnapshot_133
      · have he := ifn he c9
        refine lv_aload_n hx hb dX0_removeSnapshot_31 rfl (lv_at hl 0 rfl) ?_
        refine va_get (D := D) (ci := 0) (v := .ref (a 0)) (C := RX0) (T := TX0) (N := 1) hx hb hts iX0 hown hK hP 0 rfl rfl 0 (by decide) w1 (fun _ h9 => h9) rfl dX0_removeSnapshot_32 ?_
        refine lv_iload_n hx hb dX0_removeSnapshot_35 rfl (lv_at hl 1 rfl) ?_
        refine lv_iload hx hb dX0_removeSnapshot_36 (lv_at hl 5 rfl) ?_
        obtain ⟨v14, h15, he⟩ := bn1_i he
        refine cVir (As := [.int x1, .int x5]) (rest := []) ⟨hx, hb, hml, hown, hts⟩ hK hA hP hD hS (mX4_blockIn l D k a (P := P) h15) (cwV 2 hts gX0_removeSnapshot_X4_blockIn rfl rfl rfl kX4_blockIn ⟨Nat.le_of_ble_eq_true rfl, Nat.le_of_ble_eq_true rfl⟩) [1, 2, 3, 4, 5, 6, 7, 8, 9, 10] rfl rfl 0 rfl rfl rfl hl.1 rfl (Nat.le_of_ble_eq_true rfl) ⟨Nat.le_refl 0, Nat.le_refl 0⟩ dX0_removeSnapshot_38 (fun H locs hP hD hS => ?_)
        refine lv_istore (lv' := [(6, .int v14), (0, .ref b), (1, .int x1), (2, .int x2), (3, .int x3), (4, .int x4), (5, .int x5)]) hx hb dX0_removeSnapshot_41 hl (by decide) rfl (fun ls hl => ?_)
        refine lv_iload hx hb dX0_removeSnapshot_43 (lv_at hl 0 rfl) ?_
        refine lv_iconst (v := (-1)) hx hb dX0_removeSnapshot_45 (by decide) ?_
        refine lv_icmp_eq (tgt := 68) hx hb dX0_removeSnapshot_46 (by decide) (fun c16 => ?_) (fun c16 => ?_)
        · have he := ifp he c16
          refine lv_iconst (v := 0) hx hb dX0_removeSnapshot_68 (by decide) ?_
          exact B69 x1 x2 x3 x4 x5 v14 0 P he H locs hP hD hS ls (lv_sub hl [1, 2, 3, 4, 5, 6, 0] rfl)
        · have he := ifn he c16
          refine lv_iload hx hb dX0_removeSnapshot_49 (lv_at hl 0 rfl) ?_
          refine lv_aload_n hx hb dX0_removeSnapshot_51 rfl (lv_at hl 1 rfl) ?_
          refine va_get (D := D) (ci := 0) (v := .ref (a 0)) (C := RX0) (T := TX0) (N := 1) hx hb hts iX0 hown hK hP 0 rfl rfl 0 (by decide) w1 (fun _ h9 => h9) rfl dX0_removeSnapshot_52 ?_
          refine lv_iload_n hx hb dX0_removeSnapshot_55 rfl (lv_at hl 3 rfl) ?_
          refine lv_iload hx hb dX0_removeSnapshot_56 (lv_at hl 6 rfl) ?_
          obtain ⟨v17, h18, he⟩ := bn1_i he
          refine cVir (As := [.int x2, .int x5]) (rest := [.int v14]) ⟨hx, hb, hml, hown, hts⟩ hK hA hP hD hS (mX4_blockIn l D k a (P := P) h18) (cwV 2 hts gX0_removeSnapshot_X4_blockIn rfl rfl rfl kX4_blockIn ⟨Nat.le_of_ble_eq_true rfl, Nat.le_of_ble_eq_true rfl⟩) [1, 2, 3, 4, 5, 6, 7, 8, 9, 10] rfl rfl 0 rfl rfl rfl hl.1 rfl (Nat.le_of_ble_eq_true rfl) ⟨Nat.le_refl 0, Nat.le_refl 0⟩ dX0_removeSnapshot_58 (fun H locs hP hD hS => ?_)
          refine lv_icmp_eq (tgt := 68) hx hb dX0_removeSnapshot_61 (by decide) (fun c19 => ?_) (fun c19 => ?_)
          · have he := ifp he c19
            refine lv_iconst (v := 0) hx hb dX0_removeSnapshot_68 (by decide) ?_
            exact B69 x1 x2 x3 x4 x5 v14 0 P he H locs hP hD hS ls (lv_sub hl [1, 2, 3, 4, 5, 6, 0] rfl)
          · have he := ifn he c19
            refine lv_iconst (v := 1) hx hb dX0_removeSnapshot_64 (by decide) ?_
            refine lv_goto (tgt := 69) hx hb dX0_removeSnapshot_65 (by decide) ?_
            exact B69 x1 x2 x3 x4 x5 v14 1 P he H locs hP hD hS ls (lv_sub hl [1, 2, 3, 4, 5, 6, 0] rfl)
  have hS0 := hS
  have key : ∀ (H : Heap) (locs : List Loc), H = ss.heap → locs = [] → va_P D vwCl (wActs k b a P_0) H → va_S (va_A (wActs k b a P_0) ss.heap.size) ss.heap H locs → W pp l ee ({ frames := 1, cells := 0, slots := 0, locals := 22 } : Room) ss mm ([.ref b, .int p1] : List Value).toArray bl me co H locs 0 0 (MQ bl (cQi D k (wActs k b a P_0) ss.heap.size r (wActs k b a P')) ([.ref b, .int p1] : List Value).toArray ss 0 0 (va_A (wActs k b a P_0) ss.heap.size)) (F0 mm 0 ls []) := by
    intro H locs _ _ hP hS
    refine lv_aload_n hx hb dX0_removeSnapshot_0 rfl (lv_at hl 0 rfl) ?_
    refine va_get (D := D) (ci := 0) (v := .ref (a 0)) (C := RX0) (T := TX0) (N := 1) hx hb hts iX0 hown hK hP 0 rfl rfl 0 (by decide) w1 (fun _ h9 => h9) rfl dX0_removeSnapshot_1 ?_
    refine lv_iload_n hx hb dX0_removeSnapshot_4 rfl (lv_at hl 1 rfl) ?_
    obtain ⟨v1001, h1002, he⟩ := bn1_i he
    refine cVir (As := [.int p1]) (rest := []) ⟨hx, hb, hml, hown, hts⟩ hK hA hP hD hS (mX4_firstNext l D k a (P := P_0) h1002) (cwV 1 hts gX0_removeSnapshot_X4_firstNext rfl rfl rfl kX4_firstNext ⟨Nat.le_of_ble_eq_true rfl, Nat.le_of_ble_eq_true rfl⟩) [1, 2, 3, 4, 5, 6, 7, 8, 9, 10] rfl rfl 0 rfl rfl rfl hl.1 rfl (Nat.le_of_ble_eq_true rfl) ⟨Nat.le_refl 0, Nat.le_refl 0⟩ dX0_removeSnapshot_5 (fun H locs hP hD hS => ?_)
    refine lv_istore_n (lv' := [(2, .int v1001), (0, .ref b), (1, .int p1)]) hx hb dX0_removeSnapshot_8 rfl hl (by decide) rfl (fun ls hl => ?_)
    refine lv_aload_n hx hb dX0_removeSnapshot_9 rfl (lv_at hl 1 rfl) ?_
    refine va_get (D := D) (ci := 0) (v := .ref (a 0)) (C := RX0) (T := TX0) (N := 1) hx hb hts iX0 hown hK hP 0 rfl rfl 0 (by decide) w1 (fun _ h9 => h9) rfl dX0_removeSnapshot_10 ?_
    refine lv_iload_n hx hb dX0_removeSnapshot_13 rfl (lv_at hl 2 rfl) ?_
    obtain ⟨v1003, h1004, he⟩ := bn1_i he
    refine cVir (As := [.int p1]) (rest := []) ⟨hx, hb, hml, hown, hts⟩ hK hA hP hD hS (mX4_prevOf l D k a (P := P_0) h1004) (cwV 1 hts gX0_removeSnapshot_X4_prevOf rfl rfl rfl kX4_prevOf ⟨Nat.le_of_ble_eq_true rfl, Nat.le_of_ble_eq_true rfl⟩) [1, 2, 3, 4, 5, 6, 7, 8, 9, 10] rfl rfl 0 rfl rfl rfl hl.1 rfl (Nat.le_of_ble_eq_true rfl) ⟨Nat.le_refl 0, Nat.le_refl 0⟩ dX0_removeSnapshot_14 (fun H locs hP hD hS => ?_)
    refine lv_istore_n (lv' := [(3, .int v1003), (2, .int v1001), (0, .ref b), (1, .int p1)]) hx hb dX0_removeSnapshot_17 rfl hl (by decide) rfl (fun ls hl => ?_)
    refine lv_iconst (v := 0) hx hb dX0_removeSnapshot_18 (by decide) ?_
    refine lv_istore (lv' := [(4, .int 0), (3, .int v1003), (2, .int v1001), (0, .ref b), (1, .int p1)]) hx hb dX0_removeSnapshot_19 hl (by decide) rfl (fun ls hl => ?_)
    refine lv_iconst (v := 0) hx hb dX0_removeSnapshot_21 (by decide) ?_
    refine lv_istore (lv' := [(5, .int 0), (4, .int 0), (3, .int v1003), (2, .int v1001), (0, .ref b), (1, .int p1)]) hx hb dX0_removeSnapshot_22 hl (by decide) rfl (fun ls hl => ?_)
    exact B24 600 p1 v1001 v1003 0 0 P_0 he H locs hP hD hS ls (lv_sub hl [4, 5, 3, 2, 1, 0] rfl)
  exact key ss.heap [] rfl rfl hP hS
theorem kX0_removeThing : yX0_removeThing.cls = RX0 ∧ yX0_removeThing.cls ≠ "java/lang/invoke/MethodHandle" ∧ yX0_removeThing.cls ≠ "java/lang/invoke/VarHandle" ∧ (parseMethodDescriptor yX0_removeThing.desc).map (fun d => d.parameters.length) = some 1 := by decide +kernel
set_option maxRecDepth 100000 in
set_option maxHeartbeats 4000000 in
theorem mX0_removeThing (l : Launch) (D : va_G) (k : Nat → ClassId) (b : Nat) (a : Nat → Nat) {P_0 : Nat → Nat → Int32} {p1 : Int32} {r : Int32} {P' : Nat → Nat → Int32} (he : xX0_removeThing P_0 p1 = some (r, P')) : CtI l D k yX0_removeThing wsX0_removeThing ({ frames := 3, cells := 0, slots := 0, locals := 64 } : Room) [.ref b, .int p1] (wActs k b a P_0) r (wActs k b a P') := by
  intro sz9
  refine cSt (lv := [(0, .ref b), (1, .int p1)]) (own := RX0) (cc := cX0_removeThing) (nL := 5) (ret := (some .int)) (by decide +kernel) rfl rfl (Nat.le_of_ble_eq_true rfl) rfl ?_
  intro pp ee ss mm bl me co hsz hC0 hP hD hS ls hl
  subst hsz
  obtain ⟨hx, hb, hr, hml, hown, hts, hK, hlk⟩ := hC0
  have hA : ∀ q, ss.heap.size ≤ q → va_A (wActs k b a P_0) ss.heap.size q := fun q h => Or.inr h
  have iX0 : ∀ w ∈ wsX00, w ∈ wsX0_removeThing := fun _ h => List.mem_cons_of_mem _ (List.mem_append_left _ (List.mem_append_right _ h))
  have w1 := hts (.fieldLink RX0 9 "DeadListPool$Acts" "pool" "LDeadListPool$Pool;") (List.mem_of_getElem? (i := 1) rfl)
  have B67 : ∀ (n67 : Nat) (x1 : Int32) (x3 : Int32) (x4 : Int32) (P : Nat → Nat → Int32), xX0_removeThing_67 n67 x1 x3 x4 P = some (r, P') → ∀ (H : Heap) (locs : List Loc), va_P D vwCl (wActs k b a P) H → va_D (va_A (wActs k b a P_0) ss.heap.size) (wActs k b a P) → va_S (va_A (wActs k b a P_0) ss.heap.size) ss.heap H locs → ∀ ls : Array Slot, lv_has ls 5 [(0, .ref b), (1, .int x1), (3, .int x3), (4, .int x4)] → W pp l ee ({ frames := 3, cells := 0, slots := 0, locals := 64 } : Room) ss mm ([.ref b, .int p1] : List Value).toArray bl me co H locs 0 0 (MQ bl (cQi D k (wActs k b a P_0) ss.heap.size r (wActs k b a P')) ([.ref b, .int p1] : List Value).toArray ss 0 0 (va_A (wActs k b a P_0) ss.heap.size)) (F0 mm 67 ls []) := by
    intro n67
    induction n67 with
    | zero =>
      intro x1 x3 x4 P he
      exact absurd (show (none : Option (Int32 × (Nat → Nat → Int32))) = some (r, P') from he) (by simp)
    | succ n67 ih67 =>
      intro x1 x3 x4 P he H locs hP hD hS ls hl
      refine lv_iload hx hb dX0_removeThing_67 (lv_at hl 3 rfl) ?_
      refine lv_bipush (v := 12) hx hb dX0_removeThing_69 (by decide) ?_
      refine lv_icmp_ge (tgt := 90) hx hb dX0_removeThing_71 (by decide) (fun c1 => ?_) (fun c1 => ?_)
      · have he := ifp he c1
        refine lv_aload_n hx hb dX0_removeThing_90 rfl (lv_at hl 0 rfl) ?_
        refine va_get (D := D) (ci := 0) (v := .ref (a 0)) (C := RX0) (T := TX0) (N := 1) hx hb hts iX0 hown hK hP 0 rfl rfl 0 (by decide) w1 (fun _ h9 => h9) rfl dX0_removeThing_91 ?_
        refine lv_iload_n hx hb dX0_removeThing_94 rfl (lv_at hl 1 rfl) ?_
        obtain ⟨P2, h3, he⟩ := bn1_i he
        refine cVv (wf := (wActs k b a P2)) (As := [.int x1]) (rest := []) ⟨hx, hb, hml, hown, hts⟩ hK hA hP hD hS (mX4_dropThing l D k a (P_0 := P) h3) (cwV 1 hts gX0_removeThing_X4_dropThing rfl rfl rfl kX4_dropThing ⟨Nat.le_of_ble_eq_true rfl, Nat.le_of_ble_eq_true rfl⟩) [1, 2, 3, 4, 5, 6, 7, 8, 9, 10] rfl rfl rfl [true, false, false, false, false, false, false, false, false, false, false] ⟨rfl, trivial⟩ 11 rfl (by decide +kernel) rfl 0 rfl rfl rfl hl.1 rfl (Nat.le_of_ble_eq_true rfl) ⟨Nat.le_refl 0, Nat.le_refl 0⟩ dX0_removeThing_95 (fun H locs hP hD hS => ?_)
        refine lv_iload_n hx hb dX0_removeThing_98 rfl (lv_at hl 2 rfl) ?_
        obtain ⟨rfl, rfl⟩ := some2 he
        exact cRi hx hb hr hlk hK rfl hP hD hS dX0_removeThing_99
      · have he := ifn he c1
        refine lv_iload_n hx hb dX0_removeThing_74 rfl (lv_at hl 2 rfl) ?_
        refine lv_aload_n hx hb dX0_removeThing_75 rfl (lv_at hl 0 rfl) ?_
        refine lv_iload_n hx hb dX0_removeThing_76 rfl (lv_at hl 1 rfl) ?_
        refine lv_iload hx hb dX0_removeThing_77 (lv_at hl 3 rfl) ?_
        obtain ⟨v4, P5, h6, he⟩ := bn2_i he
        refine cVi (wf := (wActs k b a P5)) (As := [.int x1, .int x4]) (rest := [.int x3]) ⟨hx, hb, hml, hown, hts⟩ hK hA hP hD hS (mX0_emptySlot l D k b a (P_0 := P) h6) (cwV 2 hts gX0_removeThing_X0_emptySlot rfl rfl rfl kX0_emptySlot ⟨Nat.le_of_ble_eq_true rfl, Nat.le_of_ble_eq_true rfl⟩) [0, 1, 2, 3, 4, 5, 6, 7, 8, 9, 10] rfl rfl rfl [false, false, false, false, false, false, false, false, false, false, false] trivial 11 rfl (by decide +kernel) rfl 0 rfl rfl rfl hl.1 rfl (Nat.le_of_ble_eq_true rfl) ⟨Nat.le_refl 0, Nat.le_refl 0⟩ dX0_removeThing_79 (fun H locs hP hD hS => ?_)
        refine lv_iadd hx hb dX0_removeThing_82 ?_
        refine lv_istore_n (lv' := [(3, .int (x3 + v4)), (0, .ref b), (1, .int x1), (4, .int x4)]) hx hb dX0_removeThing_83 rfl hl (by decide) rfl (fun ls hl => ?_)
        refine lv_iinc (v := (x4 + 1)) (lv' := [(4, .int (x4 + 1)), (3, .int (x3 + v4)), (0, .ref b), (1, .int x1)]) hx hb dX0_removeThing_84 hl (k := 3) rfl rfl (by decide) rfl (fun ls hl => ?_)
        refine lv_goto (tgt := 67) hx hb dX0_removeThing_87 (by decide) ?_
        exact ih67 x1 (x3 + v4) (x4 + 1) P5 he H locs hP hD hS ls (lv_sub hl [2, 3, 1, 0] rfl)
  have hS0 := hS
  have key : ∀ (H : Heap) (locs : List Loc), H = ss.heap → locs = [] → va_P D vwCl (wActs k b a P_0) H → va_S (va_A (wActs k b a P_0) ss.heap.size) ss.heap H locs → W pp l ee ({ frames := 3, cells := 0, slots := 0, locals := 64 } : Room) ss mm ([.ref b, .int p1] : List Value).toArray bl me co H locs 0 0 (MQ bl (cQi D k (wActs k b a P_0) ss.heap.size r (wActs k b a P')) ([.ref b, .int p1] : List Value).toArray ss 0 0 (va_A (wActs k b a P_0) ss.heap.size)) (F0 mm 0 ls []) := by
    intro H locs _ _ hP hS
    refine lv_aload_n hx hb dX0_removeThing_0 rfl (lv_at hl 0 rfl) ?_
    refine va_get (D := D) (ci := 0) (v := .ref (a 0)) (C := RX0) (T := TX0) (N := 1) hx hb hts iX0 hown hK hP 0 rfl rfl 0 (by decide) w1 (fun _ h9 => h9) rfl dX0_removeThing_1 ?_
    refine lv_iload_n hx hb dX0_removeThing_4 rfl (lv_at hl 1 rfl) ?_
    obtain ⟨v1001, h1002, he⟩ := bn1_i he
    refine cVir (As := [.int p1]) (rest := []) ⟨hx, hb, hml, hown, hts⟩ hK hA hP hD hS (mX4_refusalOfNumber l D k a (P := P_0) h1002) (cwV 1 hts gX0_removeThing_X4_refusalOfNumber rfl rfl rfl kX4_refusalOfNumber ⟨Nat.le_of_ble_eq_true rfl, Nat.le_of_ble_eq_true rfl⟩) [1, 2, 3, 4, 5, 6, 7, 8, 9, 10] rfl rfl 0 rfl rfl rfl hl.1 rfl (Nat.le_of_ble_eq_true rfl) ⟨Nat.le_refl 0, Nat.le_refl 0⟩ dX0_removeThing_5 (fun H locs hP hD hS => ?_)
    refine lv_istore_n (lv' := [(2, .int v1001), (0, .ref b), (1, .int p1)]) hx hb dX0_removeThing_8 rfl hl (by decide) rfl (fun ls hl => ?_)
    refine lv_iload_n hx hb dX0_removeThing_9 rfl (lv_at hl 0 rfl) ?_
    refine lv_if_eq (tgt := 15) hx hb dX0_removeThing_10 (by decide) (fun c1003 => ?_) (fun c1003 => ?_)
    · have he := ifp he c1003
      refine lv_aload_n hx hb dX0_removeThing_15 rfl (lv_at hl 1 rfl) ?_
      refine va_get (D := D) (ci := 0) (v := .ref (a 0)) (C := RX0) (T := TX0) (N := 1) hx hb hts iX0 hown hK hP 0 rfl rfl 0 (by decide) w1 (fun _ h9 => h9) rfl dX0_removeThing_16 ?_
      refine lv_iload_n hx hb dX0_removeThing_19 rfl (lv_at hl 2 rfl) ?_
      obtain ⟨v1004, h1005, he⟩ := bn1_i he
      refine cVir (As := [.int p1]) (rest := []) ⟨hx, hb, hml, hown, hts⟩ hK hA hP hD hS (mX4_isSnapshot l D k a (P := P_0) h1005) (cwV 1 hts gX0_removeThing_X4_isSnapshot rfl rfl rfl kX4_isSnapshot ⟨Nat.le_of_ble_eq_true rfl, Nat.le_of_ble_eq_true rfl⟩) [1, 2, 3, 4, 5, 6, 7, 8, 9, 10] rfl rfl 0 rfl rfl rfl hl.1 rfl (Nat.le_of_ble_eq_true rfl) ⟨Nat.le_refl 0, Nat.le_refl 0⟩ dX0_removeThing_20 (fun H locs hP hD hS => ?_)
      refine lv_if_eq (tgt := 48) hx hb dX0_removeThing_23 (by decide) (fun c1006 => ?_) (fun c1006 => ?_)
      · have he := ifp he c1006
        refine lv_aload_n hx hb dX0_removeThing_48 rfl (lv_at hl 1 rfl) ?_
        refine va_get (D := D) (ci := 0) (v := .ref (a 0)) (C := RX0) (T := TX0) (N := 1) hx hb hts iX0 hown hK hP 0 rfl rfl 0 (by decide) w1 (fun _ h9 => h9) rfl dX0_removeThing_49 ?_
        refine lv_iload_n hx hb dX0_removeThing_52 rfl (lv_at hl 2 rfl) ?_
        obtain ⟨v1007, h1008, he⟩ := bn1_i he
        refine cVir (As := [.int p1]) (rest := []) ⟨hx, hb, hml, hown, hts⟩ hK hA hP hD hS (mX4_ownCount l D k a (P := P_0) h1008) (cwV 1 hts gX0_removeThing_X4_ownCount rfl rfl rfl kX4_ownCount ⟨Nat.le_of_ble_eq_true rfl, Nat.le_of_ble_eq_true rfl⟩) [1, 2, 3, 4, 5, 6, 7, 8, 9, 10] rfl rfl 0 rfl rfl rfl hl.1 rfl (Nat.le_of_ble_eq_true rfl) ⟨Nat.le_refl 0, Nat.le_refl 0⟩ dX0_removeThing_53 (fun H locs hP hD hS => ?_)
        refine lv_if_le (tgt := 62) hx hb dX0_removeThing_56 (by decide) (fun c1009 => ?_) (fun c1009 => ?_)
        · have he := ifp he c1009
          refine lv_iconst (v := 0) hx hb dX0_removeThing_62 (by decide) ?_
          refine lv_istore_n (lv' := [(3, .int 0), (2, .int v1001), (0, .ref b), (1, .int p1)]) hx hb dX0_removeThing_63 rfl hl (by decide) rfl (fun ls hl => ?_)
          refine lv_iconst (v := 0) hx hb dX0_removeThing_64 (by decide) ?_
          refine lv_istore (lv' := [(4, .int 0), (3, .int 0), (2, .int v1001), (0, .ref b), (1, .int p1)]) hx hb dX0_removeThing_65 hl (by decide) rfl (fun ls hl => ?_)
          exact B67 600 p1 0 0 P_0 he H locs hP hD hS ls (lv_sub hl [3, 4, 1, 0] rfl)
        · have he := ifn he c1009
          refine lv_bipush (v := (-3)) hx hb dX0_removeThing_59 (by decide) ?_
          obtain ⟨rfl, rfl⟩ := some2 he
          exact cRi hx hb hr hlk hK rfl hP hD hS dX0_removeThing_61
      · have he := ifn he c1006
        refine lv_aload_n hx hb dX0_removeThing_26 rfl (lv_at hl 1 rfl) ?_
        refine va_get (D := D) (ci := 0) (v := .ref (a 0)) (C := RX0) (T := TX0) (N := 1) hx hb hts iX0 hown hK hP 0 rfl rfl 0 (by decide) w1 (fun _ h9 => h9) rfl dX0_removeThing_27 ?_
        refine lv_iload_n hx hb dX0_removeThing_30 rfl (lv_at hl 2 rfl) ?_
        obtain ⟨v1010, h1011, he⟩ := bn1_i he
        refine cVir (As := [.int p1]) (rest := []) ⟨hx, hb, hml, hown, hts⟩ hK hA hP hD hS (mX4_isLoose l D k a (P := P_0) h1011) (cwV 1 hts gX0_removeThing_X4_isLoose rfl rfl rfl kX4_isLoose ⟨Nat.le_of_ble_eq_true rfl, Nat.le_of_ble_eq_true rfl⟩) [1, 2, 3, 4, 5, 6, 7, 8, 9, 10] rfl rfl 0 rfl rfl rfl hl.1 rfl (Nat.le_of_ble_eq_true rfl) ⟨Nat.le_refl 0, Nat.le_refl 0⟩ dX0_removeThing_31 (fun H locs hP hD hS => ?_)
        refine lv_if_eq (tgt := 45) hx hb dX0_removeThing_34 (by decide) (fun c1012 => ?_) (fun c1012 => ?_)
        · have he := ifp he c1012
          refine lv_bipush (v := (-3)) hx hb dX0_removeThing_45 (by decide) ?_
          obtain ⟨rfl, rfl⟩ := some2 he
          exact cRi hx hb hr hlk hK rfl hP hD hS dX0_removeThing_47
        · have he := ifn he c1012
          refine lv_aload_n hx hb dX0_removeThing_37 rfl (lv_at hl 1 rfl) ?_
          refine lv_iload_n hx hb dX0_removeThing_38 rfl (lv_at hl 2 rfl) ?_
          obtain ⟨v1013, P1014, h1015, he⟩ := bn2_i he
          refine cVi (wf := (wActs k b a P1014)) (As := [.int p1]) (rest := []) ⟨hx, hb, hml, hown, hts⟩ hK hA hP hD hS (mX0_removeSnapshot l D k b a (P_0 := P_0) h1015) (cwV 1 hts gX0_removeThing_X0_removeSnapshot rfl rfl rfl kX0_removeSnapshot ⟨Nat.le_of_ble_eq_true rfl, Nat.le_of_ble_eq_true rfl⟩) [0, 1, 2, 3, 4, 5, 6, 7, 8, 9, 10] rfl rfl rfl [false, false, false, false, false, false, false, false, false, false, false] trivial 11 rfl (by decide +kernel) rfl 0 rfl rfl rfl hl.1 rfl (Nat.le_of_ble_eq_true rfl) ⟨Nat.le_refl 0, Nat.le_refl 0⟩ dX0_removeThing_39 (fun H locs hP hD hS => ?_)
          refine lv_goto (tgt := 47) hx hb dX0_removeThing_42 (by decide) ?_
          obtain ⟨rfl, rfl⟩ := some2 he
          exact cRi hx hb hr hlk hK rfl hP hD hS dX0_removeThing_47
    · have he := ifn he c1003
      refine lv_iload_n hx hb dX0_removeThing_13 rfl (lv_at hl 0 rfl) ?_
      obtain ⟨rfl, rfl⟩ := some2 he
      exact cRi hx hb hr hlk hK rfl hP hD hS dX0_removeThing_14
  exact key ss.heap [] rfl rfl hP hS
theorem kX0_addFork : yX0_addFork.cls = RX0 ∧ yX0_addFork.cls ≠ "java/lang/invoke/MethodHandle" ∧ yX0_addFork.cls ≠ "java/lang/invoke/VarHandle" ∧ (parseMethodDescriptor yX0_addFork.desc).map (fun d => d.parameters.length) = some 1 := by decide +kernel
set_option maxRecDepth 100000 in
set_option maxHeartbeats 4000000 in
theorem mX0_addFork (l : Launch) (D : va_G) (k : Nat → ClassId) (b : Nat) (a : Nat → Nat) {P_0 : Nat → Nat → Int32} {p1 : Int32} {r : Int32} {P' : Nat → Nat → Int32} (he : xX0_addFork P_0 p1 = some (r, P')) : CtI l D k yX0_addFork wsX0_addFork ({ frames := 2, cells := 0, slots := 0, locals := 46 } : Room) [.ref b, .int p1] (wActs k b a P_0) r (wActs k b a P') := by
  intro sz9
  refine cSt (lv := [(0, .ref b), (1, .int p1)]) (own := RX0) (cc := cX0_addFork) (nL := 4) (ret := (some .int)) (by decide +kernel) rfl rfl (Nat.le_of_ble_eq_true rfl) rfl ?_
  intro pp ee ss mm bl me co hsz hC0 hP hD hS ls hl
  subst hsz
  obtain ⟨hx, hb, hr, hml, hown, hts, hK, hlk⟩ := hC0
  have hA : ∀ q, ss.heap.size ≤ q → va_A (wActs k b a P_0) ss.heap.size q := fun q h => Or.inr h
  have iX0 : ∀ w ∈ wsX00, w ∈ wsX0_addFork := fun _ h => List.mem_cons_of_mem _ (List.mem_append_left _ (List.mem_append_right _ h))
  have w1 := hts (.fieldLink RX0 9 "DeadListPool$Acts" "pool" "LDeadListPool$Pool;") (List.mem_of_getElem? (i := 1) rfl)
  have hS0 := hS
  have key : ∀ (H : Heap) (locs : List Loc), H = ss.heap → locs = [] → va_P D vwCl (wActs k b a P_0) H → va_S (va_A (wActs k b a P_0) ss.heap.size) ss.heap H locs → W pp l ee ({ frames := 2, cells := 0, slots := 0, locals := 46 } : Room) ss mm ([.ref b, .int p1] : List Value).toArray bl me co H locs 0 0 (MQ bl (cQi D k (wActs k b a P_0) ss.heap.size r (wActs k b a P')) ([.ref b, .int p1] : List Value).toArray ss 0 0 (va_A (wActs k b a P_0) ss.heap.size)) (F0 mm 0 ls []) := by
    intro H locs _ _ hP hS
    refine lv_aload_n hx hb dX0_addFork_0 rfl (lv_at hl 0 rfl) ?_
    refine va_get (D := D) (ci := 0) (v := .ref (a 0)) (C := RX0) (T := TX0) (N := 1) hx hb hts iX0 hown hK hP 0 rfl rfl 0 (by decide) w1 (fun _ h9 => h9) rfl dX0_addFork_1 ?_
    refine lv_iload_n hx hb dX0_addFork_4 rfl (lv_at hl 1 rfl) ?_
    refine lv_iconst (v := 2) hx hb dX0_addFork_5 (by decide) ?_
    obtain ⟨v1001, h1002, he⟩ := bn1_i he
    refine cVir (As := [.int p1, .int 2]) (rest := []) ⟨hx, hb, hml, hown, hts⟩ hK hA hP hD hS (mX4_refusalAs l D k a (P := P_0) h1002) (cwV 2 hts gX0_addFork_X4_refusalAs rfl rfl rfl kX4_refusalAs ⟨Nat.le_of_ble_eq_true rfl, Nat.le_of_ble_eq_true rfl⟩) [1, 2, 3, 4, 5, 6, 7, 8, 9, 10] rfl rfl 0 rfl rfl rfl hl.1 rfl (Nat.le_of_ble_eq_true rfl) ⟨Nat.le_refl 0, Nat.le_refl 0⟩ dX0_addFork_6 (fun H locs hP hD hS => ?_)
    refine lv_istore_n (lv' := [(2, .int v1001), (0, .ref b), (1, .int p1)]) hx hb dX0_addFork_9 rfl hl (by decide) rfl (fun ls hl => ?_)
    refine lv_iload_n hx hb dX0_addFork_10 rfl (lv_at hl 0 rfl) ?_
    refine lv_if_eq (tgt := 16) hx hb dX0_addFork_11 (by decide) (fun c1003 => ?_) (fun c1003 => ?_)
    · have he := ifp he c1003
      refine lv_aload_n hx hb dX0_addFork_16 rfl (lv_at hl 1 rfl) ?_
      refine va_get (D := D) (ci := 0) (v := .ref (a 0)) (C := RX0) (T := TX0) (N := 1) hx hb hts iX0 hown hK hP 0 rfl rfl 0 (by decide) w1 (fun _ h9 => h9) rfl dX0_addFork_17 ?_
      refine lv_iconst (v := 0) hx hb dX0_addFork_20 (by decide) ?_
      refine lv_aload_n hx hb dX0_addFork_21 rfl (lv_at hl 1 rfl) ?_
      refine va_get (D := D) (ci := 0) (v := .ref (a 0)) (C := RX0) (T := TX0) (N := 1) hx hb hts iX0 hown hK hP 0 rfl rfl 0 (by decide) w1 (fun _ h9 => h9) rfl dX0_addFork_22 ?_
      obtain ⟨v1004, h1005, he⟩ := bn1_i he
      refine cVir (As := []) (rest := [.int 0, .ref (a 0)]) ⟨hx, hb, hml, hown, hts⟩ hK hA hP hD hS (mX4_now l D k a (P := P_0) h1005) (cwV 0 hts gX0_addFork_X4_now rfl rfl rfl kX4_now ⟨Nat.le_of_ble_eq_true rfl, Nat.le_of_ble_eq_true rfl⟩) [1, 2, 3, 4, 5, 6, 7, 8, 9, 10] rfl rfl 0 rfl rfl rfl hl.1 rfl (Nat.le_of_ble_eq_true rfl) ⟨Nat.le_refl 0, Nat.le_refl 0⟩ dX0_addFork_25 (fun H locs hP hD hS => ?_)
      obtain ⟨v1006, P1007, h1008, he⟩ := bn2_i he
      refine cVi (wf := (wActs k b a P1007)) (As := [.int 0, .int v1004]) (rest := []) ⟨hx, hb, hml, hown, hts⟩ hK hA hP hD hS (mX4_newThing l D k a (P_0 := P_0) h1008) (cwV 2 hts gX0_addFork_X4_newThing rfl rfl rfl kX4_newThing ⟨Nat.le_of_ble_eq_true rfl, Nat.le_of_ble_eq_true rfl⟩) [1, 2, 3, 4, 5, 6, 7, 8, 9, 10] rfl rfl rfl [true, false, false, false, false, false, false, false, false, false, false] ⟨rfl, trivial⟩ 11 rfl (by decide +kernel) rfl 0 rfl rfl rfl hl.1 rfl (Nat.le_of_ble_eq_true rfl) ⟨Nat.le_refl 0, Nat.le_refl 0⟩ dX0_addFork_28 (fun H locs hP hD hS => ?_)
      refine lv_istore_n (lv' := [(3, .int v1006), (2, .int v1001), (0, .ref b), (1, .int p1)]) hx hb dX0_addFork_31 rfl hl (by decide) rfl (fun ls hl => ?_)
      refine lv_iload_n hx hb dX0_addFork_32 rfl (lv_at hl 0 rfl) ?_
      refine lv_bipush (v := (-4)) hx hb dX0_addFork_33 (by decide) ?_
      refine lv_icmp_eq (tgt := 56) hx hb dX0_addFork_35 (by decide) (fun c1009 => ?_) (fun c1009 => ?_)
      · have he := ifp he c1009
        refine lv_iload_n hx hb dX0_addFork_56 rfl (lv_at hl 0 rfl) ?_
        obtain ⟨rfl, rfl⟩ := some2 he
        exact cRi hx hb hr hlk hK rfl hP hD hS dX0_addFork_57
      · have he := ifn he c1009
        refine lv_aload_n hx hb dX0_addFork_38 rfl (lv_at hl 2 rfl) ?_
        refine va_get (D := D) (ci := 0) (v := .ref (a 0)) (C := RX0) (T := TX0) (N := 1) hx hb hts iX0 hown hK hP 0 rfl rfl 0 (by decide) w1 (fun _ h9 => h9) rfl dX0_addFork_39 ?_
        refine lv_iload_n hx hb dX0_addFork_42 rfl (lv_at hl 3 rfl) ?_
        refine lv_iload_n hx hb dX0_addFork_43 rfl (lv_at hl 0 rfl) ?_
        obtain ⟨P1010, h1011, he⟩ := bn1_i he
        refine cVv (wf := (wActs k b a P1010)) (As := [.int p1, .int v1006]) (rest := []) ⟨hx, hb, hml, hown, hts⟩ hK hA hP hD hS (mX4_copySlots l D k a (P_0 := P1007) h1011) (cwV 2 hts gX0_addFork_X4_copySlots rfl rfl rfl kX4_copySlots ⟨Nat.le_of_ble_eq_true rfl, Nat.le_of_ble_eq_true rfl⟩) [1, 2, 3, 4, 5, 6, 7, 8, 9, 10] rfl rfl rfl [true, false, false, false, false, false, false, false, false, false, false] ⟨rfl, trivial⟩ 11 rfl (by decide +kernel) rfl 0 rfl rfl rfl hl.1 rfl (Nat.le_of_ble_eq_true rfl) ⟨Nat.le_refl 0, Nat.le_refl 0⟩ dX0_addFork_44 (fun H locs hP hD hS => ?_)
        refine lv_aload_n hx hb dX0_addFork_47 rfl (lv_at hl 2 rfl) ?_
        refine va_get (D := D) (ci := 0) (v := .ref (a 0)) (C := RX0) (T := TX0) (N := 1) hx hb hts iX0 hown hK hP 0 rfl rfl 0 (by decide) w1 (fun _ h9 => h9) rfl dX0_addFork_48 ?_
        refine lv_iload_n hx hb dX0_addFork_51 rfl (lv_at hl 0 rfl) ?_
        refine lv_iload_n hx hb dX0_addFork_52 rfl (lv_at hl 3 rfl) ?_
        obtain ⟨P1012, h1013, he⟩ := bn1_i he
        refine cVv (wf := (wActs k b a P1012)) (As := [.int v1006, .int p1]) (rest := []) ⟨hx, hb, hml, hown, hts⟩ hK hA hP hD hS (mX4_setPrev l D k a (P_0 := P1010) h1013) (cwV 2 hts gX0_addFork_X4_setPrev rfl rfl rfl kX4_setPrev ⟨Nat.le_of_ble_eq_true rfl, Nat.le_of_ble_eq_true rfl⟩) [1, 2, 3, 4, 5, 6, 7, 8, 9, 10] rfl rfl rfl [true, false, false, false, false, false, false, false, false, false, false] ⟨rfl, trivial⟩ 11 rfl (by decide +kernel) rfl 0 rfl rfl rfl hl.1 rfl (Nat.le_of_ble_eq_true rfl) ⟨Nat.le_refl 0, Nat.le_refl 0⟩ dX0_addFork_53 (fun H locs hP hD hS => ?_)
        refine lv_iload_n hx hb dX0_addFork_56 rfl (lv_at hl 0 rfl) ?_
        obtain ⟨rfl, rfl⟩ := some2 he
        exact cRi hx hb hr hlk hK rfl hP hD hS dX0_addFork_57
    · have he := ifn he c1003
      refine lv_iload_n hx hb dX0_addFork_14 rfl (lv_at hl 0 rfl) ?_
      obtain ⟨rfl, rfl⟩ := some2 he
      exact cRi hx hb hr hlk hK rfl hP hD hS dX0_addFork_15
  exact key ss.heap [] rfl rfl hP hS
theorem kX0_promoteFiles : yX0_promoteFiles.cls = RX0 ∧ yX0_promoteFiles.cls ≠ "java/lang/invoke/MethodHandle" ∧ yX0_promoteFiles.cls ≠ "java/lang/invoke/VarHandle" ∧ (parseMethodDescriptor yX0_promoteFiles.desc).map (fun d => d.parameters.length) = some 1 := by decide +kernel
set_option maxRecDepth 100000 in
set_option maxHeartbeats 4000000 in
theorem mX0_promoteFiles (l : Launch) (D : va_G) (k : Nat → ClassId) (b : Nat) (a : Nat → Nat) {P_0 : Nat → Nat → Int32} {p1 : Int32} {r : Int32} {P' : Nat → Nat → Int32} (he : xX0_promoteFiles P_0 p1 = some (r, P')) : CtI l D k yX0_promoteFiles wsX0_promoteFiles ({ frames := 3, cells := 0, slots := 0, locals := 66 } : Room) [.ref b, .int p1] (wActs k b a P_0) r (wActs k b a P') := by
  intro sz9
  refine cSt (lv := [(0, .ref b), (1, .int p1)]) (own := RX0) (cc := cX0_promoteFiles) (nL := 7) (ret := (some .int)) (by decide +kernel) rfl rfl (Nat.le_of_ble_eq_true rfl) rfl ?_
  intro pp ee ss mm bl me co hsz hC0 hP hD hS ls hl
  subst hsz
  obtain ⟨hx, hb, hr, hml, hown, hts, hK, hlk⟩ := hC0
  have hA : ∀ q, ss.heap.size ≤ q → va_A (wActs k b a P_0) ss.heap.size q := fun q h => Or.inr h
  have iX0 : ∀ w ∈ wsX00, w ∈ wsX0_promoteFiles := fun _ h => List.mem_cons_of_mem _ (List.mem_append_left _ (List.mem_append_right _ h))
  have w1 := hts (.fieldLink RX0 9 "DeadListPool$Acts" "pool" "LDeadListPool$Pool;") (List.mem_of_getElem? (i := 1) rfl)
  have B49 : ∀ (n49 : Nat) (x1 : Int32) (x3 : Int32) (x4 : Int32) (x5 : Int32) (x6 : Int32) (P : Nat → Nat → Int32), xX0_promoteFiles_49 n49 x1 x3 x4 x5 x6 P = some (r, P') → ∀ (H : Heap) (locs : List Loc), va_P D vwCl (wActs k b a P) H → va_D (va_A (wActs k b a P_0) ss.heap.size) (wActs k b a P) → va_S (va_A (wActs k b a P_0) ss.heap.size) ss.heap H locs → ∀ ls : Array Slot, lv_has ls 7 [(0, .ref b), (1, .int x1), (3, .int x3), (4, .int x4), (5, .int x5), (6, .int x6)] → W pp l ee ({ frames := 3, cells := 0, slots := 0, locals := 66 } : Room) ss mm ([.ref b, .int p1] : List Value).toArray bl me co H locs 0 0 (MQ bl (cQi D k (wActs k b a P_0) ss.heap.size r (wActs k b a P')) ([.ref b, .int p1] : List Value).toArray ss 0 0 (va_A (wActs k b a P_0) ss.heap.size)) (F0 mm 49 ls []) := by
    intro n49
    induction n49 with
    | zero =>
      intro x1 x3 x4 x5 x6 P he
      exact absurd (show (none : Option (Int32 × (Nat → Nat → Int32))) = some (r, P') from he) (by simp)
    | succ n49 ih49 =>
      have B86 : ∀ (x1 : Int32) (x3 : Int32) (x4 : Int32) (x5 : Int32) (x6 : Int32) (P : Nat → Nat → Int32), xX0_promoteFiles_86 (xX0_promoteFiles_49 n49) x1 x3 x4 x5 x6 P = some (r, P') → ∀ (H : Heap) (locs : List Loc), va_P D vwCl (wActs k b a P) H → va_D (va_A (wActs k b a P_0) ss.heap.size) (wActs k b a P) → va_S (va_A (wActs k b a P_0) ss.heap.size) ss.heap H locs → ∀ ls : Array Slot, lv_has ls 7 [(0, .ref b), (1, .int x1), (3, .int x3), (4, .int x4), (5, .int x5), (6, .int x6)] → W pp l ee ({ frames := 3, cells := 0, slots := 0, locals := 66 } : Room) ss mm ([.ref b, .int p1] : List Value).toArray bl me co H locs 0 0 (MQ bl (cQi D k (wActs k b a P_0) ss.heap.size r (wActs k b a P')) ([.ref b, .int p1] : List Value).toArray ss 0 0 (va_A (wActs k b a P_0) ss.heap.size)) (F0 mm 86 ls []) := by
        intro x1 x3 x4 x5 x6 P he H locs hP hD hS ls hl
        refine lv_aload_n hx hb dX0_promoteFiles_86 rfl (lv_at hl 0 rfl) ?_
        refine va_get (D := D) (ci := 0) (v := .ref (a 0)) (C := RX0) (T := TX0) (N := 1) hx hb hts iX0 hown hK hP 0 rfl rfl 0 (by decide) w1 (fun _ h9 => h9) rfl dX0_promoteFiles_87 ?_
        refine lv_iload_n hx hb dX0_promoteFiles_90 rfl (lv_at hl 2 rfl) ?_
        obtain ⟨v1, h2, he⟩ := bn1_i he
        refine cVir (As := [.int x3]) (rest := []) ⟨hx, hb, hml, hown, hts⟩ hK hA hP hD hS (mX4_prevOf l D k a (P := P) h2) (cwV 1 hts gX0_promoteFiles_X4_prevOf rfl rfl rfl kX4_prevOf ⟨Nat.le_of_ble_eq_true rfl, Nat.le_of_ble_eq_true rfl⟩) [1, 2, 3, 4, 5, 6, 7, 8, 9, 10] rfl rfl 0 rfl rfl rfl hl.1 rfl (Nat.le_of_ble_eq_true rfl) ⟨Nat.le_refl 0, Nat.le_refl 0⟩ dX0_promoteFiles_91 (fun H locs hP hD hS => ?_)
        refine lv_istore_n (lv' := [(3, .int v1), (0, .ref b), (1, .int x1), (4, .int x4), (5, .int x5), (6, .int x6)]) hx hb dX0_promoteFiles_94 rfl hl (by decide) rfl (fun ls hl => ?_)
        refine lv_iinc (v := (x6 + 1)) (lv' := [(6, .int (x6 + 1)), (3, .int v1), (0, .ref b), (1, .int x1), (4, .int x4), (5, .int x5)]) hx hb dX0_promoteFiles_95 hl (k := 5) rfl rfl (by decide) rfl (fun ls hl => ?_)
        refine lv_goto (tgt := 49) hx hb dX0_promoteFiles_98 (by decide) ?_
        exact ih49 x1 v1 x4 x5 (x6 + 1) P he H locs hP hD hS ls (lv_sub hl [2, 3, 1, 4, 5, 0] rfl)
      intro x1 x3 x4 x5 x6 P he H locs hP hD hS ls hl
      refine lv_iload hx hb dX0_promoteFiles_49 (lv_at hl 5 rfl) ?_
      refine lv_bipush (v := 20) hx hb dX0_promoteFiles_51 (by decide) ?_
      refine lv_icmp_ge (tgt := 101) hx hb dX0_promoteFiles_53 (by decide) (fun c3 => ?_) (fun c3 => ?_)
      · have he := ifp he c3
        refine lv_iload hx hb dX0_promoteFiles_101 (lv_at hl 4 rfl) ?_
        obtain ⟨rfl, rfl⟩ := some2 he
        exact cRi hx hb hr hlk hK rfl hP hD hS dX0_promoteFiles_103
      · have he := ifn he c3
        refine lv_iload_n hx hb dX0_promoteFiles_56 rfl (lv_at hl 2 rfl) ?_
        refine lv_iconst (v := (-1)) hx hb dX0_promoteFiles_57 (by decide) ?_
        refine lv_icmp_eq (tgt := 101) hx hb dX0_promoteFiles_58 (by decide) (fun c4 => ?_) (fun c4 => ?_)
        · have he := ifp he c4
          refine lv_iload hx hb dX0_promoteFiles_101 (lv_at hl 4 rfl) ?_
          obtain ⟨rfl, rfl⟩ := some2 he
          exact cRi hx hb hr hlk hK rfl hP hD hS dX0_promoteFiles_103
        · have he := ifn he c4
          refine lv_aload_n hx hb dX0_promoteFiles_61 rfl (lv_at hl 0 rfl) ?_
          refine va_get (D := D) (ci := 0) (v := .ref (a 0)) (C := RX0) (T := TX0) (N := 1) hx hb hts iX0 hown hK hP 0 rfl rfl 0 (by decide) w1 (fun _ h9 => h9) rfl dX0_promoteFiles_62 ?_
          refine lv_iload_n hx hb dX0_promoteFiles_65 rfl (lv_at hl 2 rfl) ?_
          obtain ⟨v5, h6, he⟩ := bn1_i he
          refine cVir (As := [.int x3]) (rest := []) ⟨hx, hb, hml, hown, hts⟩ hK hA hP hD hS (mX4_ownerOf l D k a (P := P) h6) (cwV 1 hts gX0_promoteFiles_X4_ownerOf rfl rfl rfl kX4_ownerOf ⟨Nat.le_of_ble_eq_true rfl, Nat.le_of_ble_eq_true rfl⟩) [1, 2, 3, 4, 5, 6, 7, 8, 9, 10] rfl rfl 0 rfl rfl rfl hl.1 rfl (Nat.le_of_ble_eq_true rfl) ⟨Nat.le_refl 0, Nat.le_refl 0⟩ dX0_promoteFiles_66 (fun H locs hP hD hS => ?_)
          refine lv_iload hx hb dX0_promoteFiles_69 (lv_at hl 3 rfl) ?_
          refine lv_icmp_ne (tgt := 86) hx hb dX0_promoteFiles_71 (by decide) (fun c7 => ?_) (fun c7 => ?_)
          · have he := ifn he c7
            exact B86 x1 x3 x4 x5 x6 P he H locs hP hD hS ls (lv_sub hl [0, 1, 2, 3, 4, 5] rfl)
          · have he := ifp he c7
            refine lv_aload_n hx hb dX0_promoteFiles_74 rfl (lv_at hl 0 rfl) ?_
            refine va_get (D := D) (ci := 0) (v := .ref (a 0)) (C := RX0) (T := TX0) (N := 1) hx hb hts iX0 hown hK hP 0 rfl rfl 0 (by decide) w1 (fun _ h9 => h9) rfl dX0_promoteFiles_75 ?_
            refine lv_iload_n hx hb dX0_promoteFiles_78 rfl (lv_at hl 2 rfl) ?_
            refine lv_iload_n hx hb dX0_promoteFiles_79 rfl (lv_at hl 1 rfl) ?_
            obtain ⟨P8, h9, he⟩ := bn1_i he
            refine cVv (wf := (wActs k b a P8)) (As := [.int x3, .int x1]) (rest := []) ⟨hx, hb, hml, hown, hts⟩ hK hA hP hD hS (mX4_setOwner l D k a (P_0 := P) h9) (cwV 2 hts gX0_promoteFiles_X4_setOwner rfl rfl rfl kX4_setOwner ⟨Nat.le_of_ble_eq_true rfl, Nat.le_of_ble_eq_true rfl⟩) [1, 2, 3, 4, 5, 6, 7, 8, 9, 10] rfl rfl rfl [true, false, false, false, false, false, false, false, false, false, false] ⟨rfl, trivial⟩ 11 rfl (by decide +kernel) rfl 0 rfl rfl rfl hl.1 rfl (Nat.le_of_ble_eq_true rfl) ⟨Nat.le_refl 0, Nat.le_refl 0⟩ dX0_promoteFiles_80 (fun H locs hP hD hS => ?_)
            refine lv_iinc (v := (x5 + 1)) (lv' := [(5, .int (x5 + 1)), (0, .ref b), (1, .int x1), (3, .int x3), (4, .int x4), (6, .int x6)]) hx hb dX0_promoteFiles_83 hl (k := 4) rfl rfl (by decide) rfl (fun ls hl => ?_)
            exact B86 x1 x3 x4 (x5 + 1) x6 P8 he H locs hP hD hS ls (lv_sub hl [1, 2, 3, 4, 0, 5] rfl)
  have hS0 := hS
  have key : ∀ (H : Heap) (locs : List Loc), H = ss.heap → locs = [] → va_P D vwCl (wActs k b a P_0) H → va_S (va_A (wActs k b a P_0) ss.heap.size) ss.heap H locs → W pp l ee ({ frames := 3, cells := 0, slots := 0, locals := 66 } : Room) ss mm ([.ref b, .int p1] : List Value).toArray bl me co H locs 0 0 (MQ bl (cQi D k (wActs k b a P_0) ss.heap.size r (wActs k b a P')) ([.ref b, .int p1] : List Value).toArray ss 0 0 (va_A (wActs k b a P_0) ss.heap.size)) (F0 mm 0 ls []) := by
    intro H locs _ _ hP hS
    refine lv_aload_n hx hb dX0_promoteFiles_0 rfl (lv_at hl 0 rfl) ?_
    refine va_get (D := D) (ci := 0) (v := .ref (a 0)) (C := RX0) (T := TX0) (N := 1) hx hb hts iX0 hown hK hP 0 rfl rfl 0 (by decide) w1 (fun _ h9 => h9) rfl dX0_promoteFiles_1 ?_
    refine lv_iload_n hx hb dX0_promoteFiles_4 rfl (lv_at hl 1 rfl) ?_
    refine lv_iconst (v := 0) hx hb dX0_promoteFiles_5 (by decide) ?_
    obtain ⟨v1001, h1002, he⟩ := bn1_i he
    refine cVir (As := [.int p1, .int 0]) (rest := []) ⟨hx, hb, hml, hown, hts⟩ hK hA hP hD hS (mX4_refusalAs l D k a (P := P_0) h1002) (cwV 2 hts gX0_promoteFiles_X4_refusalAs rfl rfl rfl kX4_refusalAs ⟨Nat.le_of_ble_eq_true rfl, Nat.le_of_ble_eq_true rfl⟩) [1, 2, 3, 4, 5, 6, 7, 8, 9, 10] rfl rfl 0 rfl rfl rfl hl.1 rfl (Nat.le_of_ble_eq_true rfl) ⟨Nat.le_refl 0, Nat.le_refl 0⟩ dX0_promoteFiles_6 (fun H locs hP hD hS => ?_)
    refine lv_istore_n (lv' := [(2, .int v1001), (0, .ref b), (1, .int p1)]) hx hb dX0_promoteFiles_9 rfl hl (by decide) rfl (fun ls hl => ?_)
    refine lv_iload_n hx hb dX0_promoteFiles_10 rfl (lv_at hl 0 rfl) ?_
    refine lv_if_eq (tgt := 16) hx hb dX0_promoteFiles_11 (by decide) (fun c1003 => ?_) (fun c1003 => ?_)
    · have he := ifp he c1003
      refine lv_aload_n hx hb dX0_promoteFiles_16 rfl (lv_at hl 1 rfl) ?_
      refine va_get (D := D) (ci := 0) (v := .ref (a 0)) (C := RX0) (T := TX0) (N := 1) hx hb hts iX0 hown hK hP 0 rfl rfl 0 (by decide) w1 (fun _ h9 => h9) rfl dX0_promoteFiles_17 ?_
      refine lv_iload_n hx hb dX0_promoteFiles_20 rfl (lv_at hl 2 rfl) ?_
      obtain ⟨v1004, h1005, he⟩ := bn1_i he
      refine cVir (As := [.int p1]) (rest := []) ⟨hx, hb, hml, hown, hts⟩ hK hA hP hD hS (mX4_originOf l D k a (P := P_0) h1005) (cwV 1 hts gX0_promoteFiles_X4_originOf rfl rfl rfl kX4_originOf ⟨Nat.le_of_ble_eq_true rfl, Nat.le_of_ble_eq_true rfl⟩) [1, 2, 3, 4, 5, 6, 7, 8, 9, 10] rfl rfl 0 rfl rfl rfl hl.1 rfl (Nat.le_of_ble_eq_true rfl) ⟨Nat.le_refl 0, Nat.le_refl 0⟩ dX0_promoteFiles_21 (fun H locs hP hD hS => ?_)
      refine lv_istore_n (lv' := [(3, .int v1004), (2, .int v1001), (0, .ref b), (1, .int p1)]) hx hb dX0_promoteFiles_24 rfl hl (by decide) rfl (fun ls hl => ?_)
      refine lv_iload_n hx hb dX0_promoteFiles_25 rfl (lv_at hl 0 rfl) ?_
      refine lv_iconst (v := (-1)) hx hb dX0_promoteFiles_26 (by decide) ?_
      refine lv_icmp_ne (tgt := 33) hx hb dX0_promoteFiles_27 (by decide) (fun c1006 => ?_) (fun c1006 => ?_)
      · have he := ifn he c1006
        refine lv_aload_n hx hb dX0_promoteFiles_33 rfl (lv_at hl 2 rfl) ?_
        refine va_get (D := D) (ci := 0) (v := .ref (a 0)) (C := RX0) (T := TX0) (N := 1) hx hb hts iX0 hown hK hP 0 rfl rfl 0 (by decide) w1 (fun _ h9 => h9) rfl dX0_promoteFiles_34 ?_
        refine lv_iload_n hx hb dX0_promoteFiles_37 rfl (lv_at hl 0 rfl) ?_
        obtain ⟨v1007, h1008, he⟩ := bn1_i he
        refine cVir (As := [.int v1004]) (rest := []) ⟨hx, hb, hml, hown, hts⟩ hK hA hP hD hS (mX4_ownerOf l D k a (P := P_0) h1008) (cwV 1 hts gX0_promoteFiles_X4_ownerOf rfl rfl rfl kX4_ownerOf ⟨Nat.le_of_ble_eq_true rfl, Nat.le_of_ble_eq_true rfl⟩) [1, 2, 3, 4, 5, 6, 7, 8, 9, 10] rfl rfl 0 rfl rfl rfl hl.1 rfl (Nat.le_of_ble_eq_true rfl) ⟨Nat.le_refl 0, Nat.le_refl 0⟩ dX0_promoteFiles_38 (fun H locs hP hD hS => ?_)
        refine lv_istore (lv' := [(4, .int v1007), (3, .int v1004), (2, .int v1001), (0, .ref b), (1, .int p1)]) hx hb dX0_promoteFiles_41 hl (by decide) rfl (fun ls hl => ?_)
        refine lv_iconst (v := 0) hx hb dX0_promoteFiles_43 (by decide) ?_
        refine lv_istore (lv' := [(5, .int 0), (4, .int v1007), (3, .int v1004), (2, .int v1001), (0, .ref b), (1, .int p1)]) hx hb dX0_promoteFiles_44 hl (by decide) rfl (fun ls hl => ?_)
        refine lv_iconst (v := 0) hx hb dX0_promoteFiles_46 (by decide) ?_
        refine lv_istore (lv' := [(6, .int 0), (5, .int 0), (4, .int v1007), (3, .int v1004), (2, .int v1001), (0, .ref b), (1, .int p1)]) hx hb dX0_promoteFiles_47 hl (by decide) rfl (fun ls hl => ?_)
        exact B49 600 p1 v1004 v1007 0 0 P_0 he H locs hP hD hS ls (lv_sub hl [5, 6, 3, 2, 1, 0] rfl)
      · have he := ifp he c1006
        refine lv_bipush (v := (-3)) hx hb dX0_promoteFiles_30 (by decide) ?_
        obtain ⟨rfl, rfl⟩ := some2 he
        exact cRi hx hb hr hlk hK rfl hP hD hS dX0_promoteFiles_32
    · have he := ifn he c1003
      refine lv_iload_n hx hb dX0_promoteFiles_14 rfl (lv_at hl 0 rfl) ?_
      obtain ⟨rfl, rfl⟩ := some2 he
      exact cRi hx hb hr hlk hK rfl hP hD hS dX0_promoteFiles_15
  exact key ss.heap [] rfl rfl hP hS
theorem kX0_rollFilesBack : yX0_rollFilesBack.cls = RX0 ∧ yX0_rollFilesBack.cls ≠ "java/lang/invoke/MethodHandle" ∧ yX0_rollFilesBack.cls ≠ "java/lang/invoke/VarHandle" ∧ (parseMethodDescriptor yX0_rollFilesBack.desc).map (fun d => d.parameters.length) = some 1 := by decide +kernel
set_option maxRecDepth 100000 in
set_option maxHeartbeats 4000000 in
theorem mX0_rollFilesBack (l : Launch) (D : va_G) (k : Nat → ClassId) (b : Nat) (a : Nat → Nat) {P_0 : Nat → Nat → Int32} {p1 : Int32} {r : Int32} {P' : Nat → Nat → Int32} (he : xX0_rollFilesBack P_0 p1 = some (r, P')) : CtI l D k yX0_rollFilesBack wsX0_rollFilesBack ({ frames := 2, cells := 0, slots := 0, locals := 46 } : Room) [.ref b, .int p1] (wActs k b a P_0) r (wActs k b a P') := by
  intro sz9
  refine cSt (lv := [(0, .ref b), (1, .int p1)]) (own := RX0) (cc := cX0_rollFilesBack) (nL := 6) (ret := (some .int)) (by decide +kernel) rfl rfl (Nat.le_of_ble_eq_true rfl) rfl ?_
  intro pp ee ss mm bl me co hsz hC0 hP hD hS ls hl
  subst hsz
  obtain ⟨hx, hb, hr, hml, hown, hts, hK, hlk⟩ := hC0
  have hA : ∀ q, ss.heap.size ≤ q → va_A (wActs k b a P_0) ss.heap.size q := fun q h => Or.inr h
  have iX0 : ∀ w ∈ wsX00, w ∈ wsX0_rollFilesBack := fun _ h => List.mem_cons_of_mem _ (List.mem_append_left _ (List.mem_append_right _ h))
  have w1 := hts (.fieldLink RX0 9 "DeadListPool$Acts" "pool" "LDeadListPool$Pool;") (List.mem_of_getElem? (i := 1) rfl)
  have B39 : ∀ (n39 : Nat) (x1 : Int32) (x3 : Int32) (x4 : Int32) (x5 : Int32) (P : Nat → Nat → Int32), xX0_rollFilesBack_39 n39 x1 x3 x4 x5 P = some (r, P') → ∀ (H : Heap) (locs : List Loc), va_P D vwCl (wActs k b a P) H → va_D (va_A (wActs k b a P_0) ss.heap.size) (wActs k b a P) → va_S (va_A (wActs k b a P_0) ss.heap.size) ss.heap H locs → ∀ ls : Array Slot, lv_has ls 6 [(0, .ref b), (1, .int x1), (3, .int x3), (4, .int x4), (5, .int x5)] → W pp l ee ({ frames := 2, cells := 0, slots := 0, locals := 46 } : Room) ss mm ([.ref b, .int p1] : List Value).toArray bl me co H locs 0 0 (MQ bl (cQi D k (wActs k b a P_0) ss.heap.size r (wActs k b a P')) ([.ref b, .int p1] : List Value).toArray ss 0 0 (va_A (wActs k b a P_0) ss.heap.size)) (F0 mm 39 ls []) := by
    intro n39
    induction n39 with
    | zero =>
      intro x1 x3 x4 x5 P he
      exact absurd (show (none : Option (Int32 × (Nat → Nat → Int32))) = some (r, P') from he) (by simp)
    | succ n39 ih39 =>
      intro x1 x3 x4 x5 P he H locs hP hD hS ls hl
      refine lv_iload hx hb dX0_rollFilesBack_39 (lv_at hl 4 rfl) ?_
      refine lv_bipush (v := 12) hx hb dX0_rollFilesBack_41 (by decide) ?_
      refine lv_icmp_ge (tgt := 64) hx hb dX0_rollFilesBack_43 (by decide) (fun c1 => ?_) (fun c1 => ?_)
      · have he := ifp he c1
        refine lv_aload_n hx hb dX0_rollFilesBack_64 rfl (lv_at hl 0 rfl) ?_
        refine va_get (D := D) (ci := 0) (v := .ref (a 0)) (C := RX0) (T := TX0) (N := 1) hx hb hts iX0 hown hK hP 0 rfl rfl 0 (by decide) w1 (fun _ h9 => h9) rfl dX0_rollFilesBack_65 ?_
        refine lv_iload_n hx hb dX0_rollFilesBack_68 rfl (lv_at hl 2 rfl) ?_
        refine lv_iload_n hx hb dX0_rollFilesBack_69 rfl (lv_at hl 1 rfl) ?_
        obtain ⟨P2, h3, he⟩ := bn1_i he
        refine cVv (wf := (wActs k b a P2)) (As := [.int x3, .int x1]) (rest := []) ⟨hx, hb, hml, hown, hts⟩ hK hA hP hD hS (mX4_copySlots l D k a (P_0 := P) h3) (cwV 2 hts gX0_rollFilesBack_X4_copySlots rfl rfl rfl kX4_copySlots ⟨Nat.le_of_ble_eq_true rfl, Nat.le_of_ble_eq_true rfl⟩) [1, 2, 3, 4, 5, 6, 7, 8, 9, 10] rfl rfl rfl [true, false, false, false, false, false, false, false, false, false, false] ⟨rfl, trivial⟩ 11 rfl (by decide +kernel) rfl 0 rfl rfl rfl hl.1 rfl (Nat.le_of_ble_eq_true rfl) ⟨Nat.le_refl 0, Nat.le_refl 0⟩ dX0_rollFilesBack_70 (fun H locs hP hD hS => ?_)
        refine lv_iload hx hb dX0_rollFilesBack_73 (lv_at hl 3 rfl) ?_
        obtain ⟨rfl, rfl⟩ := some2 he
        exact cRi hx hb hr hlk hK rfl hP hD hS dX0_rollFilesBack_75
      · have he := ifn he c1
        refine lv_iload hx hb dX0_rollFilesBack_46 (lv_at hl 3 rfl) ?_
        refine lv_aload_n hx hb dX0_rollFilesBack_48 rfl (lv_at hl 0 rfl) ?_
        refine lv_iload_n hx hb dX0_rollFilesBack_49 rfl (lv_at hl 1 rfl) ?_
        refine lv_iload hx hb dX0_rollFilesBack_50 (lv_at hl 4 rfl) ?_
        obtain ⟨v4, P5, h6, he⟩ := bn2_i he
        refine cVi (wf := (wActs k b a P5)) (As := [.int x1, .int x5]) (rest := [.int x4]) ⟨hx, hb, hml, hown, hts⟩ hK hA hP hD hS (mX0_emptySlot l D k b a (P_0 := P) h6) (cwV 2 hts gX0_rollFilesBack_X0_emptySlot rfl rfl rfl kX0_emptySlot ⟨Nat.le_of_ble_eq_true rfl, Nat.le_of_ble_eq_true rfl⟩) [0, 1, 2, 3, 4, 5, 6, 7, 8, 9, 10] rfl rfl rfl [false, false, false, false, false, false, false, false, false, false, false] trivial 11 rfl (by decide +kernel) rfl 0 rfl rfl rfl hl.1 rfl (Nat.le_of_ble_eq_true rfl) ⟨Nat.le_refl 0, Nat.le_refl 0⟩ dX0_rollFilesBack_52 (fun H locs hP hD hS => ?_)
        refine lv_iadd hx hb dX0_rollFilesBack_55 ?_
        refine lv_istore (lv' := [(4, .int (x4 + v4)), (0, .ref b), (1, .int x1), (3, .int x3), (5, .int x5)]) hx hb dX0_rollFilesBack_56 hl (by decide) rfl (fun ls hl => ?_)
        refine lv_iinc (v := (x5 + 1)) (lv' := [(5, .int (x5 + 1)), (4, .int (x4 + v4)), (0, .ref b), (1, .int x1), (3, .int x3)]) hx hb dX0_rollFilesBack_58 hl (k := 4) rfl rfl (by decide) rfl (fun ls hl => ?_)
        refine lv_goto (tgt := 39) hx hb dX0_rollFilesBack_61 (by decide) ?_
        exact ih39 x1 x3 (x4 + v4) (x5 + 1) P5 he H locs hP hD hS ls (lv_sub hl [2, 3, 4, 1, 0] rfl)
  have hS0 := hS
  have key : ∀ (H : Heap) (locs : List Loc), H = ss.heap → locs = [] → va_P D vwCl (wActs k b a P_0) H → va_S (va_A (wActs k b a P_0) ss.heap.size) ss.heap H locs → W pp l ee ({ frames := 2, cells := 0, slots := 0, locals := 46 } : Room) ss mm ([.ref b, .int p1] : List Value).toArray bl me co H locs 0 0 (MQ bl (cQi D k (wActs k b a P_0) ss.heap.size r (wActs k b a P')) ([.ref b, .int p1] : List Value).toArray ss 0 0 (va_A (wActs k b a P_0) ss.heap.size)) (F0 mm 0 ls []) := by
    intro H locs _ _ hP hS
    refine lv_aload_n hx hb dX0_rollFilesBack_0 rfl (lv_at hl 0 rfl) ?_
    refine va_get (D := D) (ci := 0) (v := .ref (a 0)) (C := RX0) (T := TX0) (N := 1) hx hb hts iX0 hown hK hP 0 rfl rfl 0 (by decide) w1 (fun _ h9 => h9) rfl dX0_rollFilesBack_1 ?_
    refine lv_iload_n hx hb dX0_rollFilesBack_4 rfl (lv_at hl 1 rfl) ?_
    refine lv_iconst (v := 0) hx hb dX0_rollFilesBack_5 (by decide) ?_
    obtain ⟨v1001, h1002, he⟩ := bn1_i he
    refine cVir (As := [.int p1, .int 0]) (rest := []) ⟨hx, hb, hml, hown, hts⟩ hK hA hP hD hS (mX4_refusalAs l D k a (P := P_0) h1002) (cwV 2 hts gX0_rollFilesBack_X4_refusalAs rfl rfl rfl kX4_refusalAs ⟨Nat.le_of_ble_eq_true rfl, Nat.le_of_ble_eq_true rfl⟩) [1, 2, 3, 4, 5, 6, 7, 8, 9, 10] rfl rfl 0 rfl rfl rfl hl.1 rfl (Nat.le_of_ble_eq_true rfl) ⟨Nat.le_refl 0, Nat.le_refl 0⟩ dX0_rollFilesBack_6 (fun H locs hP hD hS => ?_)
    refine lv_istore_n (lv' := [(2, .int v1001), (0, .ref b), (1, .int p1)]) hx hb dX0_rollFilesBack_9 rfl hl (by decide) rfl (fun ls hl => ?_)
    refine lv_iload_n hx hb dX0_rollFilesBack_10 rfl (lv_at hl 0 rfl) ?_
    refine lv_if_eq (tgt := 16) hx hb dX0_rollFilesBack_11 (by decide) (fun c1003 => ?_) (fun c1003 => ?_)
    · have he := ifp he c1003
      refine lv_aload_n hx hb dX0_rollFilesBack_16 rfl (lv_at hl 1 rfl) ?_
      refine va_get (D := D) (ci := 0) (v := .ref (a 0)) (C := RX0) (T := TX0) (N := 1) hx hb hts iX0 hown hK hP 0 rfl rfl 0 (by decide) w1 (fun _ h9 => h9) rfl dX0_rollFilesBack_17 ?_
      refine lv_iload_n hx hb dX0_rollFilesBack_20 rfl (lv_at hl 2 rfl) ?_
      obtain ⟨v1004, h1005, he⟩ := bn1_i he
      refine cVir (As := [.int p1]) (rest := []) ⟨hx, hb, hml, hown, hts⟩ hK hA hP hD hS (mX4_prevOf l D k a (P := P_0) h1005) (cwV 1 hts gX0_rollFilesBack_X4_prevOf rfl rfl rfl kX4_prevOf ⟨Nat.le_of_ble_eq_true rfl, Nat.le_of_ble_eq_true rfl⟩) [1, 2, 3, 4, 5, 6, 7, 8, 9, 10] rfl rfl 0 rfl rfl rfl hl.1 rfl (Nat.le_of_ble_eq_true rfl) ⟨Nat.le_refl 0, Nat.le_refl 0⟩ dX0_rollFilesBack_21 (fun H locs hP hD hS => ?_)
      refine lv_istore_n (lv' := [(3, .int v1004), (2, .int v1001), (0, .ref b), (1, .int p1)]) hx hb dX0_rollFilesBack_24 rfl hl (by decide) rfl (fun ls hl => ?_)
      refine lv_iload_n hx hb dX0_rollFilesBack_25 rfl (lv_at hl 0 rfl) ?_
      refine lv_iconst (v := (-1)) hx hb dX0_rollFilesBack_26 (by decide) ?_
      refine lv_icmp_ne (tgt := 33) hx hb dX0_rollFilesBack_27 (by decide) (fun c1006 => ?_) (fun c1006 => ?_)
      · have he := ifn he c1006
        refine lv_iconst (v := 0) hx hb dX0_rollFilesBack_33 (by decide) ?_
        refine lv_istore (lv' := [(4, .int 0), (3, .int v1004), (2, .int v1001), (0, .ref b), (1, .int p1)]) hx hb dX0_rollFilesBack_34 hl (by decide) rfl (fun ls hl => ?_)
        refine lv_iconst (v := 0) hx hb dX0_rollFilesBack_36 (by decide) ?_
        refine lv_istore (lv' := [(5, .int 0), (4, .int 0), (3, .int v1004), (2, .int v1001), (0, .ref b), (1, .int p1)]) hx hb dX0_rollFilesBack_37 hl (by decide) rfl (fun ls hl => ?_)
        exact B39 600 p1 v1004 0 0 P_0 he H locs hP hD hS ls (lv_sub hl [4, 5, 2, 1, 0] rfl)
      · have he := ifp he c1006
        refine lv_bipush (v := (-3)) hx hb dX0_rollFilesBack_30 (by decide) ?_
        obtain ⟨rfl, rfl⟩ := some2 he
        exact cRi hx hb hr hlk hK rfl hP hD hS dX0_rollFilesBack_32
    · have he := ifn he c1003
      refine lv_iload_n hx hb dX0_rollFilesBack_14 rfl (lv_at hl 0 rfl) ?_
      obtain ⟨rfl, rfl⟩ := some2 he
      exact cRi hx hb hr hlk hK rfl hP hD hS dX0_rollFilesBack_15
  exact key ss.heap [] rfl rfl hP hS
theorem kX0_passTime : yX0_passTime.cls = RX0 ∧ yX0_passTime.cls ≠ "java/lang/invoke/MethodHandle" ∧ yX0_passTime.cls ≠ "java/lang/invoke/VarHandle" ∧ (parseMethodDescriptor yX0_passTime.desc).map (fun d => d.parameters.length) = some 0 := by decide +kernel
set_option maxRecDepth 100000 in
set_option maxHeartbeats 4000000 in
theorem mX0_passTime (l : Launch) (D : va_G) (k : Nat → ClassId) (b : Nat) (a : Nat → Nat) {P_0 : Nat → Nat → Int32}  {r : Int32} {P' : Nat → Nat → Int32} (he : xX0_passTime P_0 = some (r, P')) : CtI l D k yX0_passTime wsX0_passTime ({ frames := 1, cells := 0, slots := 0, locals := 21 } : Room) [.ref b] (wActs k b a P_0) r (wActs k b a P') := by
  intro sz9
  refine cSt (lv := [(0, .ref b)]) (own := RX0) (cc := cX0_passTime) (nL := 1) (ret := (some .int)) (by decide +kernel) rfl rfl (Nat.le_of_ble_eq_true rfl) rfl ?_
  intro pp ee ss mm bl me co hsz hC0 hP hD hS ls hl
  subst hsz
  obtain ⟨hx, hb, hr, hml, hown, hts, hK, hlk⟩ := hC0
  have hA : ∀ q, ss.heap.size ≤ q → va_A (wActs k b a P_0) ss.heap.size q := fun q h => Or.inr h
  have iX0 : ∀ w ∈ wsX00, w ∈ wsX0_passTime := fun _ h => List.mem_cons_of_mem _ (List.mem_append_left _ (List.mem_append_right _ h))
  have w1 := hts (.fieldLink RX0 9 "DeadListPool$Acts" "pool" "LDeadListPool$Pool;") (List.mem_of_getElem? (i := 1) rfl)
  have w2 := hts (.constant RX0 94 (100000)) (List.mem_of_getElem? (i := 2) rfl)
  have hS0 := hS
  have key : ∀ (H : Heap) (locs : List Loc), H = ss.heap → locs = [] → va_P D vwCl (wActs k b a P_0) H → va_S (va_A (wActs k b a P_0) ss.heap.size) ss.heap H locs → W pp l ee ({ frames := 1, cells := 0, slots := 0, locals := 21 } : Room) ss mm ([.ref b] : List Value).toArray bl me co H locs 0 0 (MQ bl (cQi D k (wActs k b a P_0) ss.heap.size r (wActs k b a P')) ([.ref b] : List Value).toArray ss 0 0 (va_A (wActs k b a P_0) ss.heap.size)) (F0 mm 0 ls []) := by
    intro H locs _ _ hP hS
    refine lv_aload_n hx hb dX0_passTime_0 rfl (lv_at hl 0 rfl) ?_
    refine va_get (D := D) (ci := 0) (v := .ref (a 0)) (C := RX0) (T := TX0) (N := 1) hx hb hts iX0 hown hK hP 0 rfl rfl 0 (by decide) w1 (fun _ h9 => h9) rfl dX0_passTime_1 ?_
    obtain ⟨v1001, h1002, he⟩ := bn1_i he
    refine cVir (As := []) (rest := []) ⟨hx, hb, hml, hown, hts⟩ hK hA hP hD hS (mX4_now l D k a (P := P_0) h1002) (cwV 0 hts gX0_passTime_X4_now rfl rfl rfl kX4_now ⟨Nat.le_of_ble_eq_true rfl, Nat.le_of_ble_eq_true rfl⟩) [1, 2, 3, 4, 5, 6, 7, 8, 9, 10] rfl rfl 0 rfl rfl rfl hl.1 rfl (Nat.le_of_ble_eq_true rfl) ⟨Nat.le_refl 0, Nat.le_refl 0⟩ dX0_passTime_4 (fun H locs hP hD hS => ?_)
    refine lv_ldc hx hb hown w2 dX0_passTime_7 ?_
    refine lv_icmp_lt (tgt := 15) hx hb dX0_passTime_9 (by decide) (fun c1003 => ?_) (fun c1003 => ?_)
    · have he := ifp he c1003
      refine lv_aload_n hx hb dX0_passTime_15 rfl (lv_at hl 0 rfl) ?_
      refine va_get (D := D) (ci := 0) (v := .ref (a 0)) (C := RX0) (T := TX0) (N := 1) hx hb hts iX0 hown hK hP 0 rfl rfl 0 (by decide) w1 (fun _ h9 => h9) rfl dX0_passTime_16 ?_
      refine lv_aload_n hx hb dX0_passTime_19 rfl (lv_at hl 0 rfl) ?_
      refine va_get (D := D) (ci := 0) (v := .ref (a 0)) (C := RX0) (T := TX0) (N := 1) hx hb hts iX0 hown hK hP 0 rfl rfl 0 (by decide) w1 (fun _ h9 => h9) rfl dX0_passTime_20 ?_
      obtain ⟨v1004, h1005, he⟩ := bn1_i he
      refine cVir (As := []) (rest := [.ref (a 0)]) ⟨hx, hb, hml, hown, hts⟩ hK hA hP hD hS (mX4_now l D k a (P := P_0) h1005) (cwV 0 hts gX0_passTime_X4_now rfl rfl rfl kX4_now ⟨Nat.le_of_ble_eq_true rfl, Nat.le_of_ble_eq_true rfl⟩) [1, 2, 3, 4, 5, 6, 7, 8, 9, 10] rfl rfl 0 rfl rfl rfl hl.1 rfl (Nat.le_of_ble_eq_true rfl) ⟨Nat.le_refl 0, Nat.le_refl 0⟩ dX0_passTime_23 (fun H locs hP hD hS => ?_)
      refine lv_iconst (v := 1) hx hb dX0_passTime_26 (by decide) ?_
      refine lv_iadd hx hb dX0_passTime_27 ?_
      obtain ⟨P1006, h1007, he⟩ := bn1_i he
      refine cVv (wf := (wActs k b a P1006)) (As := [.int (v1004 + 1)]) (rest := []) ⟨hx, hb, hml, hown, hts⟩ hK hA hP hD hS (mX4_setTime l D k a (P_0 := P_0) h1007) (cwV 1 hts gX0_passTime_X4_setTime rfl rfl rfl kX4_setTime ⟨Nat.le_of_ble_eq_true rfl, Nat.le_of_ble_eq_true rfl⟩) [1, 2, 3, 4, 5, 6, 7, 8, 9, 10] rfl rfl rfl [true, false, false, false, false, false, false, false, false, false, false] ⟨rfl, trivial⟩ 11 rfl (by decide +kernel) rfl 0 rfl rfl rfl hl.1 rfl (Nat.le_of_ble_eq_true rfl) ⟨Nat.le_refl 0, Nat.le_refl 0⟩ dX0_passTime_28 (fun H locs hP hD hS => ?_)
      refine lv_aload_n hx hb dX0_passTime_31 rfl (lv_at hl 0 rfl) ?_
      refine va_get (D := D) (ci := 0) (v := .ref (a 0)) (C := RX0) (T := TX0) (N := 1) hx hb hts iX0 hown hK hP 0 rfl rfl 0 (by decide) w1 (fun _ h9 => h9) rfl dX0_passTime_32 ?_
      obtain ⟨v1008, h1009, he⟩ := bn1_i he
      refine cVir (As := []) (rest := []) ⟨hx, hb, hml, hown, hts⟩ hK hA hP hD hS (mX4_now l D k a (P := P1006) h1009) (cwV 0 hts gX0_passTime_X4_now rfl rfl rfl kX4_now ⟨Nat.le_of_ble_eq_true rfl, Nat.le_of_ble_eq_true rfl⟩) [1, 2, 3, 4, 5, 6, 7, 8, 9, 10] rfl rfl 0 rfl rfl rfl hl.1 rfl (Nat.le_of_ble_eq_true rfl) ⟨Nat.le_refl 0, Nat.le_refl 0⟩ dX0_passTime_35 (fun H locs hP hD hS => ?_)
      obtain ⟨rfl, rfl⟩ := some2 he
      exact cRi hx hb hr hlk hK rfl hP hD hS dX0_passTime_38
    · have he := ifn he c1003
      refine lv_bipush (v := (-3)) hx hb dX0_passTime_12 (by decide) ?_
      obtain ⟨rfl, rfl⟩ := some2 he
      exact cRi hx hb hr hlk hK rfl hP hD hS dX0_passTime_14
  exact key ss.heap [] rfl rfl hP hS
theorem kX0_removeExpired : yX0_removeExpired.cls = RX0 ∧ yX0_removeExpired.cls ≠ "java/lang/invoke/MethodHandle" ∧ yX0_removeExpired.cls ≠ "java/lang/invoke/VarHandle" ∧ (parseMethodDescriptor yX0_removeExpired.desc).map (fun d => d.parameters.length) = some 3 := by decide +kernel
set_option maxRecDepth 100000 in
set_option maxHeartbeats 4000000 in
theorem mX0_removeExpired (l : Launch) (D : va_G) (k : Nat → ClassId) (b : Nat) (a : Nat → Nat) {P_0 : Nat → Nat → Int32} {p1 : Int32} {p2 : Int32} {p3 : Int32} {r : Int32} {P' : Nat → Nat → Int32} (he : xX0_removeExpired P_0 p1 p2 p3 = some (r, P')) : CtI l D k yX0_removeExpired wsX0_removeExpired ({ frames := 3, cells := 0, slots := 0, locals := 64 } : Room) [.ref b, .int p1, .int p2, .int p3] (wActs k b a P_0) r (wActs k b a P') := by
  intro sz9
  refine cSt (lv := [(0, .ref b), (1, .int p1), (2, .int p2), (3, .int p3)]) (own := RX0) (cc := cX0_removeExpired) (nL := 8) (ret := (some .int)) (by decide +kernel) rfl rfl (Nat.le_of_ble_eq_true rfl) rfl ?_
  intro pp ee ss mm bl me co hsz hC0 hP hD hS ls hl
  subst hsz
  obtain ⟨hx, hb, hr, hml, hown, hts, hK, hlk⟩ := hC0
  have hA : ∀ q, ss.heap.size ≤ q → va_A (wActs k b a P_0) ss.heap.size q := fun q h => Or.inr h
  have iX0 : ∀ w ∈ wsX00, w ∈ wsX0_removeExpired := fun _ h => List.mem_cons_of_mem _ (List.mem_append_left _ (List.mem_append_right _ h))
  have w1 := hts (.fieldLink RX0 9 "DeadListPool$Acts" "pool" "LDeadListPool$Pool;") (List.mem_of_getElem? (i := 1) rfl)
  have B58 : ∀ (n58 : Nat) (x1 : Int32) (x2 : Int32) (x3 : Int32) (x5 : Int32) (x6 : Int32) (P : Nat → Nat → Int32), xX0_removeExpired_58 n58 x1 x2 x3 x5 x6 P = some (r, P') → ∀ (H : Heap) (locs : List Loc), va_P D vwCl (wActs k b a P) H → va_D (va_A (wActs k b a P_0) ss.heap.size) (wActs k b a P) → va_S (va_A (wActs k b a P_0) ss.heap.size) ss.heap H locs → ∀ ls : Array Slot, lv_has ls 8 [(0, .ref b), (1, .int x1), (2, .int x2), (3, .int x3), (5, .int x5), (6, .int x6)] → W pp l ee ({ frames := 3, cells := 0, slots := 0, locals := 64 } : Room) ss mm ([.ref b, .int p1, .int p2, .int p3] : List Value).toArray bl me co H locs 0 0 (MQ bl (cQi D k (wActs k b a P_0) ss.heap.size r (wActs k b a P')) ([.ref b, .int p1, .int p2, .int p3] : List Value).toArray ss 0 0 (va_A (wActs k b a P_0) ss.heap.size)) (F0 mm 58 ls []) := by
    intro n58
    induction n58 with
    | zero =>
      intro x1 x2 x3 x5 x6 P he
      exact absurd (show (none : Option (Int32 × (Nat → Nat → Int32))) = some (r, P') from he) (by simp)
    | succ n58 ih58 =>
      intro x1 x2 x3 x5 x6 P he H locs hP hD hS ls hl
      refine lv_iload hx hb dX0_removeExpired_58 (lv_at hl 5 rfl) ?_
      refine lv_iload_n hx hb dX0_removeExpired_60 rfl (lv_at hl 2 rfl) ?_
      refine lv_icmp_lt (tgt := 118) hx hb dX0_removeExpired_61 (by decide) (fun c1 => ?_) (fun c1 => ?_)
      · have he := ifp he c1
        refine lv_iload hx hb dX0_removeExpired_118 (lv_at hl 4 rfl) ?_
        obtain ⟨rfl, rfl⟩ := some2 he
        exact cRi hx hb hr hlk hK rfl hP hD hS dX0_removeExpired_120
      · have he := ifn he c1
        refine lv_aload_n hx hb dX0_removeExpired_64 rfl (lv_at hl 0 rfl) ?_
        refine va_get (D := D) (ci := 0) (v := .ref (a 0)) (C := RX0) (T := TX0) (N := 1) hx hb hts iX0 hown hK hP 0 rfl rfl 0 (by decide) w1 (fun _ h9 => h9) rfl dX0_removeExpired_65 ?_
        refine lv_iload_n hx hb dX0_removeExpired_68 rfl (lv_at hl 1 rfl) ?_
        refine lv_iload hx hb dX0_removeExpired_69 (lv_at hl 5 rfl) ?_
        obtain ⟨v2, h3, he⟩ := bn1_i he
        refine cVir (As := [.int x1, .int x6]) (rest := []) ⟨hx, hb, hml, hown, hts⟩ hK hA hP hD hS (mX4_inChain l D k a (P := P) h3) (cwV 2 hts gX0_removeExpired_X4_inChain rfl rfl rfl kX4_inChain ⟨Nat.le_of_ble_eq_true rfl, Nat.le_of_ble_eq_true rfl⟩) [1, 2, 3, 4, 5, 6, 7, 8, 9, 10] rfl rfl 0 rfl rfl rfl hl.1 rfl (Nat.le_of_ble_eq_true rfl) ⟨Nat.le_refl 0, Nat.le_refl 0⟩ dX0_removeExpired_71 (fun H locs hP hD hS => ?_)
        refine lv_istore (lv' := [(7, .int v2), (0, .ref b), (1, .int x1), (2, .int x2), (3, .int x3), (5, .int x5), (6, .int x6)]) hx hb dX0_removeExpired_74 hl (by decide) rfl (fun ls hl => ?_)
        refine lv_aload_n hx hb dX0_removeExpired_76 rfl (lv_at hl 1 rfl) ?_
        refine va_get (D := D) (ci := 0) (v := .ref (a 0)) (C := RX0) (T := TX0) (N := 1) hx hb hts iX0 hown hK hP 0 rfl rfl 0 (by decide) w1 (fun _ h9 => h9) rfl dX0_removeExpired_77 ?_
        refine lv_iload hx hb dX0_removeExpired_80 (lv_at hl 0 rfl) ?_
        obtain ⟨v4, h5, he⟩ := bn1_i he
        refine cVir (As := [.int v2]) (rest := []) ⟨hx, hb, hml, hown, hts⟩ hK hA hP hD hS (mX4_madeOf l D k a (P := P) h5) (cwV 1 hts gX0_removeExpired_X4_madeOf rfl rfl rfl kX4_madeOf ⟨Nat.le_of_ble_eq_true rfl, Nat.le_of_ble_eq_true rfl⟩) [1, 2, 3, 4, 5, 6, 7, 8, 9, 10] rfl rfl 0 rfl rfl rfl hl.1 rfl (Nat.le_of_ble_eq_true rfl) ⟨Nat.le_refl 0, Nat.le_refl 0⟩ dX0_removeExpired_82 (fun H locs hP hD hS => ?_)
        refine lv_iload_n hx hb dX0_removeExpired_85 rfl (lv_at hl 4 rfl) ?_
        obtain ⟨h6, he⟩ := grd_i he
        refine lv_irem hx hb dX0_removeExpired_86 (of_decide_eq_true h6) ?_
        refine lv_if_eq (tgt := 112) hx hb dX0_removeExpired_87 (by decide) (fun c7 => ?_) (fun c7 => ?_)
        · have he := ifp he c7
          refine lv_iinc (v := (x6 + (-1))) (lv' := [(6, .int (x6 + (-1))), (7, .int v2), (0, .ref b), (1, .int x1), (2, .int x2), (3, .int x3), (5, .int x5)]) hx hb dX0_removeExpired_112 hl (k := 6) rfl rfl (by decide) rfl (fun ls hl => ?_)
          refine lv_goto (tgt := 58) hx hb dX0_removeExpired_115 (by decide) ?_
          exact ih58 x1 x2 x3 x5 (x6 + (-1)) P he H locs hP hD hS ls (lv_sub hl [2, 3, 4, 5, 6, 0] rfl)
        · have he := ifn he c7
          refine lv_aload_n hx hb dX0_removeExpired_90 rfl (lv_at hl 1 rfl) ?_
          refine va_get (D := D) (ci := 0) (v := .ref (a 0)) (C := RX0) (T := TX0) (N := 1) hx hb hts iX0 hown hK hP 0 rfl rfl 0 (by decide) w1 (fun _ h9 => h9) rfl dX0_removeExpired_91 ?_
          refine lv_iload hx hb dX0_removeExpired_94 (lv_at hl 0 rfl) ?_
          obtain ⟨v8, h9, he⟩ := bn1_i he
          refine cVir (As := [.int v2]) (rest := []) ⟨hx, hb, hml, hown, hts⟩ hK hA hP hD hS (mX4_isLoose l D k a (P := P) h9) (cwV 1 hts gX0_removeExpired_X4_isLoose rfl rfl rfl kX4_isLoose ⟨Nat.le_of_ble_eq_true rfl, Nat.le_of_ble_eq_true rfl⟩) [1, 2, 3, 4, 5, 6, 7, 8, 9, 10] rfl rfl 0 rfl rfl rfl hl.1 rfl (Nat.le_of_ble_eq_true rfl) ⟨Nat.le_refl 0, Nat.le_refl 0⟩ dX0_removeExpired_96 (fun H locs hP hD hS => ?_)
          refine lv_if_eq (tgt := 112) hx hb dX0_removeExpired_99 (by decide) (fun c10 => ?_) (fun c10 => ?_)
          · have he := ifp he c10
            refine lv_iinc (v := (x6 + (-1))) (lv' := [(6, .int (x6 + (-1))), (7, .int v2), (0, .ref b), (1, .int x1), (2, .int x2), (3, .int x3), (5, .int x5)]) hx hb dX0_removeExpired_112 hl (k := 6) rfl rfl (by decide) rfl (fun ls hl => ?_)
            refine lv_goto (tgt := 58) hx hb dX0_removeExpired_115 (by decide) ?_
            exact ih58 x1 x2 x3 x5 (x6 + (-1)) P he H locs hP hD hS ls (lv_sub hl [2, 3, 4, 5, 6, 0] rfl)
          · have he := ifn he c10
            refine lv_aload_n hx hb dX0_removeExpired_102 rfl (lv_at hl 1 rfl) ?_
            refine lv_iload hx hb dX0_removeExpired_103 (lv_at hl 0 rfl) ?_
            obtain ⟨v11, P12, h13, he⟩ := bn2_i he
            refine cVi (wf := (wActs k b a P12)) (As := [.int v2]) (rest := []) ⟨hx, hb, hml, hown, hts⟩ hK hA hP hD hS (mX0_removeSnapshot l D k b a (P_0 := P) h13) (cwV 1 hts gX0_removeExpired_X0_removeSnapshot rfl rfl rfl kX0_removeSnapshot ⟨Nat.le_of_ble_eq_true rfl, Nat.le_of_ble_eq_true rfl⟩) [0, 1, 2, 3, 4, 5, 6, 7, 8, 9, 10] rfl rfl rfl [false, false, false, false, false, false, false, false, false, false, false] trivial 11 rfl (by decide +kernel) rfl 0 rfl rfl rfl hl.1 rfl (Nat.le_of_ble_eq_true rfl) ⟨Nat.le_refl 0, Nat.le_refl 0⟩ dX0_removeExpired_105 (fun H locs hP hD hS => ?_)
            refine lv_pop hx hb dX0_removeExpired_108 rfl ?_
            refine lv_iinc (v := (x5 + 1)) (lv' := [(5, .int (x5 + 1)), (7, .int v2), (0, .ref b), (1, .int x1), (2, .int x2), (3, .int x3), (6, .int x6)]) hx hb dX0_removeExpired_109 hl (k := 5) rfl rfl (by decide) rfl (fun ls hl => ?_)
            refine lv_iinc (v := (x6 + (-1))) (lv' := [(6, .int (x6 + (-1))), (5, .int (x5 + 1)), (7, .int v2), (0, .ref b), (1, .int x1), (2, .int x2), (3, .int x3)]) hx hb dX0_removeExpired_112 hl (k := 6) rfl rfl (by decide) rfl (fun ls hl => ?_)
            refine lv_goto (tgt := 58) hx hb dX0_removeExpired_115 (by decide) ?_
            exact ih58 x1 x2 x3 (x5 + 1) (x6 + (-1)) P12 he H locs hP hD hS ls (lv_sub hl [3, 4, 5, 6, 1, 0] rfl)
  have hS0 := hS
  have key : ∀ (H : Heap) (locs : List Loc), H = ss.heap → locs = [] → va_P D vwCl (wActs k b a P_0) H → va_S (va_A (wActs k b a P_0) ss.heap.size) ss.heap H locs → W pp l ee ({ frames := 3, cells := 0, slots := 0, locals := 64 } : Room) ss mm ([.ref b, .int p1, .int p2, .int p3] : List Value).toArray bl me co H locs 0 0 (MQ bl (cQi D k (wActs k b a P_0) ss.heap.size r (wActs k b a P')) ([.ref b, .int p1, .int p2, .int p3] : List Value).toArray ss 0 0 (va_A (wActs k b a P_0) ss.heap.size)) (F0 mm 0 ls []) := by
    intro H locs _ _ hP hS
    refine lv_iload_n hx hb dX0_removeExpired_0 rfl (lv_at hl 2 rfl) ?_
    refine lv_if_lt (tgt := 21) hx hb dX0_removeExpired_1 (by decide) (fun c1001 => ?_) (fun c1001 => ?_)
    · have he := ifp he c1001
      refine lv_bipush (v := (-2)) hx hb dX0_removeExpired_21 (by decide) ?_
      obtain ⟨rfl, rfl⟩ := some2 he
      exact cRi hx hb hr hlk hK rfl hP hD hS dX0_removeExpired_23
    · have he := ifn he c1001
      refine lv_iload_n hx hb dX0_removeExpired_4 rfl (lv_at hl 2 rfl) ?_
      refine lv_bipush (v := 20) hx hb dX0_removeExpired_5 (by decide) ?_
      refine lv_icmp_gt (tgt := 21) hx hb dX0_removeExpired_7 (by decide) (fun c1002 => ?_) (fun c1002 => ?_)
      · have he := ifp he c1002
        refine lv_bipush (v := (-2)) hx hb dX0_removeExpired_21 (by decide) ?_
        obtain ⟨rfl, rfl⟩ := some2 he
        exact cRi hx hb hr hlk hK rfl hP hD hS dX0_removeExpired_23
      · have he := ifn he c1002
        refine lv_iload_n hx hb dX0_removeExpired_10 rfl (lv_at hl 3 rfl) ?_
        refine lv_iconst (v := 1) hx hb dX0_removeExpired_11 (by decide) ?_
        refine lv_icmp_lt (tgt := 21) hx hb dX0_removeExpired_12 (by decide) (fun c1003 => ?_) (fun c1003 => ?_)
        · have he := ifp he c1003
          refine lv_bipush (v := (-2)) hx hb dX0_removeExpired_21 (by decide) ?_
          obtain ⟨rfl, rfl⟩ := some2 he
          exact cRi hx hb hr hlk hK rfl hP hD hS dX0_removeExpired_23
        · have he := ifn he c1003
          refine lv_iload_n hx hb dX0_removeExpired_15 rfl (lv_at hl 3 rfl) ?_
          refine lv_bipush (v := 100) hx hb dX0_removeExpired_16 (by decide) ?_
          refine lv_icmp_le (tgt := 24) hx hb dX0_removeExpired_18 (by decide) (fun c1004 => ?_) (fun c1004 => ?_)
          · have he := ifp he c1004
            refine lv_aload_n hx hb dX0_removeExpired_24 rfl (lv_at hl 0 rfl) ?_
            refine va_get (D := D) (ci := 0) (v := .ref (a 0)) (C := RX0) (T := TX0) (N := 1) hx hb hts iX0 hown hK hP 0 rfl rfl 0 (by decide) w1 (fun _ h9 => h9) rfl dX0_removeExpired_25 ?_
            refine lv_iload_n hx hb dX0_removeExpired_28 rfl (lv_at hl 1 rfl) ?_
            refine lv_iconst (v := 0) hx hb dX0_removeExpired_29 (by decide) ?_
            obtain ⟨v1005, h1006, he⟩ := bn1_i he
            refine cVir (As := [.int p1, .int 0]) (rest := []) ⟨hx, hb, hml, hown, hts⟩ hK hA hP hD hS (mX4_refusalAs l D k a (P := P_0) h1006) (cwV 2 hts gX0_removeExpired_X4_refusalAs rfl rfl rfl kX4_refusalAs ⟨Nat.le_of_ble_eq_true rfl, Nat.le_of_ble_eq_true rfl⟩) [1, 2, 3, 4, 5, 6, 7, 8, 9, 10] rfl rfl 0 rfl rfl rfl hl.1 rfl (Nat.le_of_ble_eq_true rfl) ⟨Nat.le_refl 0, Nat.le_refl 0⟩ dX0_removeExpired_30 (fun H locs hP hD hS => ?_)
            refine lv_istore (lv' := [(4, .int v1005), (0, .ref b), (1, .int p1), (2, .int p2), (3, .int p3)]) hx hb dX0_removeExpired_33 hl (by decide) rfl (fun ls hl => ?_)
            refine lv_iload hx hb dX0_removeExpired_35 (lv_at hl 0 rfl) ?_
            refine lv_if_eq (tgt := 43) hx hb dX0_removeExpired_37 (by decide) (fun c1007 => ?_) (fun c1007 => ?_)
            · have he := ifp he c1007
              refine lv_iconst (v := 0) hx hb dX0_removeExpired_43 (by decide) ?_
              refine lv_istore (lv' := [(5, .int 0), (4, .int v1005), (0, .ref b), (1, .int p1), (2, .int p2), (3, .int p3)]) hx hb dX0_removeExpired_44 hl (by decide) rfl (fun ls hl => ?_)
              refine lv_aload_n hx hb dX0_removeExpired_46 rfl (lv_at hl 2 rfl) ?_
              refine va_get (D := D) (ci := 0) (v := .ref (a 0)) (C := RX0) (T := TX0) (N := 1) hx hb hts iX0 hown hK hP 0 rfl rfl 0 (by decide) w1 (fun _ h9 => h9) rfl dX0_removeExpired_47 ?_
              refine lv_iload_n hx hb dX0_removeExpired_50 rfl (lv_at hl 3 rfl) ?_
              obtain ⟨v1008, h1009, he⟩ := bn1_i he
              refine cVir (As := [.int p1]) (rest := []) ⟨hx, hb, hml, hown, hts⟩ hK hA hP hD hS (mX4_ownCount l D k a (P := P_0) h1009) (cwV 1 hts gX0_removeExpired_X4_ownCount rfl rfl rfl kX4_ownCount ⟨Nat.le_of_ble_eq_true rfl, Nat.le_of_ble_eq_true rfl⟩) [1, 2, 3, 4, 5, 6, 7, 8, 9, 10] rfl rfl 0 rfl rfl rfl hl.1 rfl (Nat.le_of_ble_eq_true rfl) ⟨Nat.le_refl 0, Nat.le_refl 0⟩ dX0_removeExpired_51 (fun H locs hP hD hS => ?_)
              refine lv_iconst (v := 1) hx hb dX0_removeExpired_54 (by decide) ?_
              refine lv_isub hx hb dX0_removeExpired_55 ?_
              refine lv_istore (lv' := [(6, .int (v1008 - 1)), (5, .int 0), (4, .int v1005), (0, .ref b), (1, .int p1), (2, .int p2), (3, .int p3)]) hx hb dX0_removeExpired_56 hl (by decide) rfl (fun ls hl => ?_)
              exact B58 600 p1 p2 p3 0 (v1008 - 1) P_0 he H locs hP hD hS ls (lv_sub hl [3, 4, 5, 6, 1, 0] rfl)
            · have he := ifn he c1007
              refine lv_iload hx hb dX0_removeExpired_40 (lv_at hl 0 rfl) ?_
              obtain ⟨rfl, rfl⟩ := some2 he
              exact cRi hx hb hr hlk hK rfl hP hD hS dX0_removeExpired_42
          · have he := ifn he c1004
            refine lv_bipush (v := (-2)) hx hb dX0_removeExpired_21 (by decide) ?_
            obtain ⟨rfl, rfl⟩ := some2 he
            exact cRi hx hb hr hlk hK rfl hP hD hS dX0_removeExpired_23
  exact key ss.heap [] rfl rfl hP hS
theorem kX0_carryPair : yX0_carryPair.cls = RX0 ∧ yX0_carryPair.cls ≠ "java/lang/invoke/MethodHandle" ∧ yX0_carryPair.cls ≠ "java/lang/invoke/VarHandle" ∧ (parseMethodDescriptor yX0_carryPair.desc).map (fun d => d.parameters.length) = some 3 := by decide +kernel
set_option maxRecDepth 100000 in
set_option maxHeartbeats 4000000 in
theorem mX0_carryPair (l : Launch) (D : va_G) (k : Nat → ClassId) (b : Nat) (a : Nat → Nat) {P_0 : Nat → Nat → Int32} {p1 : Int32} {p2 : Int64} {p4 : Int64} {r : Int32} {P' : Nat → Nat → Int32} (he : xX0_carryPair P_0 p1 p2 p4 = some (r, P')) : CtI l D k yX0_carryPair wsX0_carryPair ({ frames := 3, cells := 0, slots := 0, locals := 73 } : Room) [.ref b, .int p1, .long p2, .long p4] (wActs k b a P_0) r (wActs k b a P') := by
  intro sz9
  refine cSt (lv := [(0, .ref b), (1, .int p1), (2, .long p2), (4, .long p4)]) (own := RX0) (cc := cX0_carryPair) (nL := 6) (ret := (some .boolean)) (by decide +kernel) rfl rfl (Nat.le_of_ble_eq_true rfl) rfl ?_
  intro pp ee ss mm bl me co hsz hC0 hP hD hS ls hl
  subst hsz
  obtain ⟨hx, hb, hr, hml, hown, hts, hK, hlk⟩ := hC0
  have hA : ∀ q, ss.heap.size ≤ q → va_A (wActs k b a P_0) ss.heap.size q := fun q h => Or.inr h
  have w1 := hts (.constantLong RX0 111 (12)) (List.mem_of_getElem? (i := 1) rfl)
  have w2 := hts (.constantLong RX0 113 (1000000000)) (List.mem_of_getElem? (i := 2) rfl)
  have hS0 := hS
  have key : ∀ (H : Heap) (locs : List Loc), H = ss.heap → locs = [] → va_P D vwCl (wActs k b a P_0) H → va_S (va_A (wActs k b a P_0) ss.heap.size) ss.heap H locs → W pp l ee ({ frames := 3, cells := 0, slots := 0, locals := 73 } : Room) ss mm ([.ref b, .int p1, .long p2, .long p4] : List Value).toArray bl me co H locs 0 0 (MQ bl (cQi D k (wActs k b a P_0) ss.heap.size r (wActs k b a P')) ([.ref b, .int p1, .long p2, .long p4] : List Value).toArray ss 0 0 (va_A (wActs k b a P_0) ss.heap.size)) (F0 mm 0 ls []) := by
    intro H locs _ _ hP hS
    refine lv_lload_n hx hb dX0_carryPair_0 rfl (lv_at hl 2 rfl) ?_
    refine lv_lconst (v := 0) hx hb dX0_carryPair_1 (by decide) ?_
    refine W.lcmp hx hb dX0_carryPair_2 ?_
    refine lv_if_lt (tgt := 30) hx hb dX0_carryPair_3 (by decide) (fun c1001 => ?_) (fun c1001 => ?_)
    · have he := ifp he c1001
      refine lv_iconst (v := 0) hx hb dX0_carryPair_30 (by decide) ?_
      obtain ⟨rfl, rfl⟩ := some2 he
      exact cRi hx hb hr hlk hK rfl hP hD hS dX0_carryPair_31
    · have he := ifn he c1001
      refine lv_lload_n hx hb dX0_carryPair_6 rfl (lv_at hl 2 rfl) ?_
      refine lv_ldc2 hx hb hown w1 dX0_carryPair_7 ?_
      refine W.lcmp hx hb dX0_carryPair_10 ?_
      refine lv_if_ge (tgt := 30) hx hb dX0_carryPair_11 (by decide) (fun c1002 => ?_) (fun c1002 => ?_)
      · have he := ifp he c1002
        refine lv_iconst (v := 0) hx hb dX0_carryPair_30 (by decide) ?_
        obtain ⟨rfl, rfl⟩ := some2 he
        exact cRi hx hb hr hlk hK rfl hP hD hS dX0_carryPair_31
      · have he := ifn he c1002
        refine lv_lload hx hb dX0_carryPair_14 (lv_at hl 3 rfl) ?_
        refine lv_lconst (v := 0) hx hb dX0_carryPair_16 (by decide) ?_
        refine W.lcmp hx hb dX0_carryPair_17 ?_
        refine lv_if_lt (tgt := 30) hx hb dX0_carryPair_18 (by decide) (fun c1003 => ?_) (fun c1003 => ?_)
        · have he := ifp he c1003
          refine lv_iconst (v := 0) hx hb dX0_carryPair_30 (by decide) ?_
          obtain ⟨rfl, rfl⟩ := some2 he
          exact cRi hx hb hr hlk hK rfl hP hD hS dX0_carryPair_31
        · have he := ifn he c1003
          refine lv_lload hx hb dX0_carryPair_21 (lv_at hl 3 rfl) ?_
          refine lv_ldc2 hx hb hown w2 dX0_carryPair_23 ?_
          refine W.lcmp hx hb dX0_carryPair_26 ?_
          refine lv_if_le (tgt := 32) hx hb dX0_carryPair_27 (by decide) (fun c1004 => ?_) (fun c1004 => ?_)
          · have he := ifp he c1004
            refine lv_lload hx hb dX0_carryPair_32 (lv_at hl 3 rfl) ?_
            refine lv_lconst (v := 0) hx hb dX0_carryPair_34 (by decide) ?_
            refine W.lcmp hx hb dX0_carryPair_35 ?_
            refine lv_if_ne (tgt := 49) hx hb dX0_carryPair_36 (by decide) (fun c1005 => ?_) (fun c1005 => ?_)
            · have he := ifn he c1005
              refine lv_aload_n hx hb dX0_carryPair_49 rfl (lv_at hl 0 rfl) ?_
              refine lv_iload_n hx hb dX0_carryPair_50 rfl (lv_at hl 1 rfl) ?_
              refine lv_lload_n hx hb dX0_carryPair_51 rfl (lv_at hl 2 rfl) ?_
              refine lv_l2i (v := (Int64.toInt32 p2)) hx hb dX0_carryPair_52 rfl ?_
              refine lv_lload hx hb dX0_carryPair_53 (lv_at hl 3 rfl) ?_
              refine lv_l2i (v := (Int64.toInt32 p4)) hx hb dX0_carryPair_55 rfl ?_
              obtain ⟨v1006, P1007, h1008, he⟩ := bn2_i he
              refine cVi (wf := (wActs k b a P1007)) (As := [.int p1, .int (Int64.toInt32 p2), .int (Int64.toInt32 p4)]) (rest := []) ⟨hx, hb, hml, hown, hts⟩ hK hA hP hD hS (mX0_fillSlot l D k b a (P_0 := P_0) h1008) (cwV 3 hts gX0_carryPair_X0_fillSlot rfl rfl rfl kX0_fillSlot ⟨Nat.le_of_ble_eq_true rfl, Nat.le_of_ble_eq_true rfl⟩) [0, 1, 2, 3, 4, 5, 6, 7, 8, 9, 10] rfl rfl rfl [false, false, false, false, false, false, false, false, false, false, false] trivial 11 rfl (by decide +kernel) rfl 0 rfl rfl rfl hl.1 rfl (Nat.le_of_ble_eq_true rfl) ⟨Nat.le_refl 0, Nat.le_refl 0⟩ dX0_carryPair_56 (fun H locs hP hD hS => ?_)
              refine lv_bipush (v := (-4)) hx hb dX0_carryPair_59 (by decide) ?_
              refine lv_icmp_eq (tgt := 68) hx hb dX0_carryPair_61 (by decide) (fun c1009 => ?_) (fun c1009 => ?_)
              · have he := ifp he c1009
                refine lv_iconst (v := 0) hx hb dX0_carryPair_68 (by decide) ?_
                obtain ⟨rfl, rfl⟩ := some2 he
                exact cRi hx hb hr hlk hK rfl hP hD hS dX0_carryPair_69
              · have he := ifn he c1009
                refine lv_iconst (v := 1) hx hb dX0_carryPair_64 (by decide) ?_
                refine lv_goto (tgt := 69) hx hb dX0_carryPair_65 (by decide) ?_
                obtain ⟨rfl, rfl⟩ := some2 he
                exact cRi hx hb hr hlk hK rfl hP hD hS dX0_carryPair_69
            · have he := ifp he c1005
              refine lv_aload_n hx hb dX0_carryPair_39 rfl (lv_at hl 0 rfl) ?_
              refine lv_iload_n hx hb dX0_carryPair_40 rfl (lv_at hl 1 rfl) ?_
              refine lv_lload_n hx hb dX0_carryPair_41 rfl (lv_at hl 2 rfl) ?_
              refine lv_l2i (v := (Int64.toInt32 p2)) hx hb dX0_carryPair_42 rfl ?_
              obtain ⟨v1010, P1011, h1012, he⟩ := bn2_i he
              refine cVi (wf := (wActs k b a P1011)) (As := [.int p1, .int (Int64.toInt32 p2)]) (rest := []) ⟨hx, hb, hml, hown, hts⟩ hK hA hP hD hS (mX0_emptySlot l D k b a (P_0 := P_0) h1012) (cwV 2 hts gX0_carryPair_X0_emptySlot rfl rfl rfl kX0_emptySlot ⟨Nat.le_of_ble_eq_true rfl, Nat.le_of_ble_eq_true rfl⟩) [0, 1, 2, 3, 4, 5, 6, 7, 8, 9, 10] rfl rfl rfl [false, false, false, false, false, false, false, false, false, false, false] trivial 11 rfl (by decide +kernel) rfl 0 rfl rfl rfl hl.1 rfl (Nat.le_of_ble_eq_true rfl) ⟨Nat.le_refl 0, Nat.le_refl 0⟩ dX0_carryPair_43 (fun H locs hP hD hS => ?_)
              refine lv_pop hx hb dX0_carryPair_46 rfl ?_
              refine lv_iconst (v := 1) hx hb dX0_carryPair_47 (by decide) ?_
              obtain ⟨rfl, rfl⟩ := some2 he
              exact cRi hx hb hr hlk hK rfl hP hD hS dX0_carryPair_48
          · have he := ifn he c1004
            refine lv_iconst (v := 0) hx hb dX0_carryPair_30 (by decide) ?_
            obtain ⟨rfl, rfl⟩ := some2 he
            exact cRi hx hb hr hlk hK rfl hP hD hS dX0_carryPair_31
  exact key ss.heap [] rfl rfl hP hS
theorem kX0_carryOver : yX0_carryOver.cls = RX0 ∧ yX0_carryOver.cls ≠ "java/lang/invoke/MethodHandle" ∧ yX0_carryOver.cls ≠ "java/lang/invoke/VarHandle" ∧ (parseMethodDescriptor yX0_carryOver.desc).map (fun d => d.parameters.length) = some 2 := by decide +kernel
set_option maxRecDepth 100000 in
set_option maxHeartbeats 4000000 in
theorem mX0_carryOver (l : Launch) (D : va_G) (k : Nat → ClassId) (b : Nat) (a : Nat → Nat) (t : Nat → Nat) {P_0 : Nat → Nat → Int32} {so : Int32} {le : Int32} {ro : Nat → Int64} {p1 : Int32} {r : Int32} {P' : Nat → Nat → Int32} (he : xX0_carryOver le ro P_0 p1 = some (r, P')) : CtI l D k yX0_carryOver wsX0_carryOver ({ frames := 4, cells := 0, slots := 0, locals := 98 } : Room) [.ref b, .int p1, .ref (t 0)] (wActSheet k b a t P_0 so le ro) r (wActSheet k b a t P' so le ro) := by
  intro sz9
  refine cSt (lv := [(0, .ref b), (1, .int p1), (2, .ref (t 0))]) (own := RX0) (cc := cX0_carryOver) (nL := 6) (ret := (some .int)) (by decide +kernel) rfl rfl (Nat.le_of_ble_eq_true rfl) rfl ?_
  intro pp ee ss mm bl me co hsz hC0 hP hD hS ls hl
  subst hsz
  obtain ⟨hx, hb, hr, hml, hown, hts, hK, hlk⟩ := hC0
  have hA : ∀ q, ss.heap.size ≤ q → va_A (wActSheet k b a t P_0 so le ro) ss.heap.size q := fun q h => Or.inr h
  have B11 : ∀ (n11 : Nat) (x1 : Int32) (x3 : Int32) (x4 : Int32) (x5 : Int32) (P : Nat → Nat → Int32), xX0_carryOver_11 le ro n11 x1 x3 x4 x5 P = some (r, P') → ∀ (H : Heap) (locs : List Loc), va_P D vwCl (wActSheet k b a t P so le ro) H → va_D (va_A (wActSheet k b a t P_0 so le ro) ss.heap.size) (wActSheet k b a t P so le ro) → va_S (va_A (wActSheet k b a t P_0 so le ro) ss.heap.size) ss.heap H locs → ∀ ls : Array Slot, lv_has ls 6 [(0, .ref b), (1, .int x1), (2, .ref (t 0)), (3, .int x3), (4, .int x4), (5, .int x5)] → W pp l ee ({ frames := 4, cells := 0, slots := 0, locals := 98 } : Room) ss mm ([.ref b, .int p1, .ref (t 0)] : List Value).toArray bl me co H locs 0 0 (MQ bl (cQi D k (wActSheet k b a t P_0 so le ro) ss.heap.size r (wActSheet k b a t P' so le ro)) ([.ref b, .int p1, .ref (t 0)] : List Value).toArray ss 0 0 (va_A (wActSheet k b a t P_0 so le ro) ss.heap.size)) (F0 mm 11 ls []) := by
    intro n11
    induction n11 with
    | zero =>
      intro x1 x3 x4 x5 P he
      exact absurd (show (none : Option (Int32 × (Nat → Nat → Int32))) = some (r, P') from he) (by simp)
    | succ n11 ih11 =>
      intro x1 x3 x4 x5 P he H locs hP hD hS ls hl
      refine lv_iload hx hb dX0_carryOver_11 (lv_at hl 5 rfl) ?_
      refine lv_iconst (v := 1) hx hb dX0_carryOver_13 (by decide) ?_
      refine lv_iadd hx hb dX0_carryOver_14 ?_
      refine lv_iload_n hx hb dX0_carryOver_15 rfl (lv_at hl 3 rfl) ?_
      refine lv_icmp_ge (tgt := 50) hx hb dX0_carryOver_16 (by decide) (fun c1 => ?_) (fun c1 => ?_)
      · have he := ifp he c1
        refine lv_iload_n hx hb dX0_carryOver_50 rfl (lv_at hl 3 rfl) ?_
        refine lv_iconst (v := 2) hx hb dX0_carryOver_51 (by decide) ?_
        refine lv_irem hx hb dX0_carryOver_52 (by decide) ?_
        refine lv_if_ne (tgt := 61) hx hb dX0_carryOver_53 (by decide) (fun c2 => ?_) (fun c2 => ?_)
        · have he := ifn he c2
          refine lv_bipush (v := (-12)) hx hb dX0_carryOver_61 (by decide) ?_
          obtain ⟨rfl, rfl⟩ := some2 he
          exact cRi hx hb hr hlk hK rfl hP hD hS dX0_carryOver_63
        · have he := ifp he c2
          refine lv_iload hx hb dX0_carryOver_56 (lv_at hl 4 rfl) ?_
          refine lv_goto (tgt := 63) hx hb dX0_carryOver_58 (by decide) ?_
          obtain ⟨rfl, rfl⟩ := some2 he
          exact cRi hx hb hr hlk hK rfl hP hD hS dX0_carryOver_63
      · have he := ifn he c1
        refine lv_aload_n hx hb dX0_carryOver_19 rfl (lv_at hl 0 rfl) ?_
        refine lv_iload_n hx hb dX0_carryOver_20 rfl (lv_at hl 1 rfl) ?_
        refine lv_aload_n hx hb dX0_carryOver_21 rfl (lv_at hl 2 rfl) ?_
        refine lv_iload hx hb dX0_carryOver_22 (lv_at hl 5 rfl) ?_
        obtain ⟨v3, h4, he⟩ := bn1_i he
        refine cVlr (As := [.int x5]) (rest := [.int x1, .ref b]) ⟨hx, hb, hml, hown, hts⟩ hK hA hP hD hS (mX5_at l D k t (so := so) (le := le) (ro := ro) h4) (cwV 1 hts gX0_carryOver_X5_at rfl rfl rfl kX5_at ⟨Nat.le_of_ble_eq_true rfl, Nat.le_of_ble_eq_true rfl⟩) [11, 12] rfl rfl 0 rfl rfl rfl hl.1 rfl (Nat.le_of_ble_eq_true rfl) ⟨Nat.le_refl 0, Nat.le_refl 0⟩ dX0_carryOver_24 (fun H locs hP hD hS => ?_)
        refine lv_aload_n hx hb dX0_carryOver_27 rfl (lv_at hl 2 rfl) ?_
        refine lv_iload hx hb dX0_carryOver_28 (lv_at hl 5 rfl) ?_
        refine lv_iconst (v := 1) hx hb dX0_carryOver_30 (by decide) ?_
        refine lv_iadd hx hb dX0_carryOver_31 ?_
        obtain ⟨v5, h6, he⟩ := bn1_i he
        refine cVlr (As := [.int (x5 + 1)]) (rest := [.long v3, .int x1, .ref b]) ⟨hx, hb, hml, hown, hts⟩ hK hA hP hD hS (mX5_at l D k t (so := so) (le := le) (ro := ro) h6) (cwV 1 hts gX0_carryOver_X5_at rfl rfl rfl kX5_at ⟨Nat.le_of_ble_eq_true rfl, Nat.le_of_ble_eq_true rfl⟩) [11, 12] rfl rfl 0 rfl rfl rfl hl.1 rfl (Nat.le_of_ble_eq_true rfl) ⟨Nat.le_refl 0, Nat.le_refl 0⟩ dX0_carryOver_32 (fun H locs hP hD hS => ?_)
        obtain ⟨v7, P8, h9, he⟩ := bn2_i he
        refine cVi (wf := (wActSheet k b a t P8 so le ro)) (As := [.int x1, .long v3, .long v5]) (rest := []) ⟨hx, hb, hml, hown, hts⟩ hK hA hP hD hS (mX0_carryPair l D k b a (P_0 := P) h9) (cwV 3 hts gX0_carryOver_X0_carryPair rfl rfl rfl kX0_carryPair ⟨Nat.le_of_ble_eq_true rfl, Nat.le_of_ble_eq_true rfl⟩) [0, 1, 2, 3, 4, 5, 6, 7, 8, 9, 10] rfl rfl rfl [false, false, false, false, false, false, false, false, false, false, false, true, true] ⟨rfl, rfl, trivial⟩ 13 rfl (by decide +kernel) rfl 0 rfl rfl rfl hl.1 rfl (Nat.le_of_ble_eq_true rfl) ⟨Nat.le_refl 0, Nat.le_refl 0⟩ dX0_carryOver_35 (fun H locs hP hD hS => ?_)
        refine lv_if_eq (tgt := 44) hx hb dX0_carryOver_38 (by decide) (fun c10 => ?_) (fun c10 => ?_)
        · have he := ifp he c10
          refine lv_iinc (v := (x5 + 2)) (lv' := [(5, .int (x5 + 2)), (0, .ref b), (1, .int x1), (2, .ref (t 0)), (3, .int x3), (4, .int x4)]) hx hb dX0_carryOver_44 hl (k := 5) rfl rfl (by decide) rfl (fun ls hl => ?_)
          refine lv_goto (tgt := 11) hx hb dX0_carryOver_47 (by decide) ?_
          exact ih11 x1 x3 x4 (x5 + 2) P8 he H locs hP hD hS ls (lv_sub hl [1, 2, 3, 4, 5, 0] rfl)
        · have he := ifn he c10
          refine lv_iinc (v := (x4 + 1)) (lv' := [(4, .int (x4 + 1)), (0, .ref b), (1, .int x1), (2, .ref (t 0)), (3, .int x3), (5, .int x5)]) hx hb dX0_carryOver_41 hl (k := 4) rfl rfl (by decide) rfl (fun ls hl => ?_)
          refine lv_iinc (v := (x5 + 2)) (lv' := [(5, .int (x5 + 2)), (4, .int (x4 + 1)), (0, .ref b), (1, .int x1), (2, .ref (t 0)), (3, .int x3)]) hx hb dX0_carryOver_44 hl (k := 5) rfl rfl (by decide) rfl (fun ls hl => ?_)
          refine lv_goto (tgt := 11) hx hb dX0_carryOver_47 (by decide) ?_
          exact ih11 x1 x3 (x4 + 1) (x5 + 2) P8 he H locs hP hD hS ls (lv_sub hl [2, 3, 4, 5, 1, 0] rfl)
  have hS0 := hS
  have key : ∀ (H : Heap) (locs : List Loc), H = ss.heap → locs = [] → va_P D vwCl (wActSheet k b a t P_0 so le ro) H → va_S (va_A (wActSheet k b a t P_0 so le ro) ss.heap.size) ss.heap H locs → W pp l ee ({ frames := 4, cells := 0, slots := 0, locals := 98 } : Room) ss mm ([.ref b, .int p1, .ref (t 0)] : List Value).toArray bl me co H locs 0 0 (MQ bl (cQi D k (wActSheet k b a t P_0 so le ro) ss.heap.size r (wActSheet k b a t P' so le ro)) ([.ref b, .int p1, .ref (t 0)] : List Value).toArray ss 0 0 (va_A (wActSheet k b a t P_0 so le ro) ss.heap.size)) (F0 mm 0 ls []) := by
    intro H locs _ _ hP hS
    refine lv_aload_n hx hb dX0_carryOver_0 rfl (lv_at hl 2 rfl) ?_
    obtain ⟨v1001, h1002, he⟩ := bn1_i he
    refine cVir (As := []) (rest := []) ⟨hx, hb, hml, hown, hts⟩ hK hA hP hD hS (mX5_size l D k t (so := so) (le := le) (ro := ro) h1002) (cwV 0 hts gX0_carryOver_X5_size rfl rfl rfl kX5_size ⟨Nat.le_of_ble_eq_true rfl, Nat.le_of_ble_eq_true rfl⟩) [11, 12] rfl rfl 0 rfl rfl rfl hl.1 rfl (Nat.le_of_ble_eq_true rfl) ⟨Nat.le_refl 0, Nat.le_refl 0⟩ dX0_carryOver_1 (fun H locs hP hD hS => ?_)
    refine lv_istore_n (lv' := [(3, .int v1001), (0, .ref b), (1, .int p1), (2, .ref (t 0))]) hx hb dX0_carryOver_4 rfl hl (by decide) rfl (fun ls hl => ?_)
    refine lv_iconst (v := 0) hx hb dX0_carryOver_5 (by decide) ?_
    refine lv_istore (lv' := [(4, .int 0), (3, .int v1001), (0, .ref b), (1, .int p1), (2, .ref (t 0))]) hx hb dX0_carryOver_6 hl (by decide) rfl (fun ls hl => ?_)
    refine lv_iconst (v := 0) hx hb dX0_carryOver_8 (by decide) ?_
    refine lv_istore (lv' := [(5, .int 0), (4, .int 0), (3, .int v1001), (0, .ref b), (1, .int p1), (2, .ref (t 0))]) hx hb dX0_carryOver_9 hl (by decide) rfl (fun ls hl => ?_)
    exact B11 600 p1 v1001 0 0 P_0 he H locs hP hD hS ls (lv_sub hl [3, 4, 5, 2, 1, 0] rfl)
  exact key ss.heap [] rfl rfl hP hS
