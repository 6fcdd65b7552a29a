theorem kX6_heldCount : yX6_heldCount.cls = RX6 ∧ yX6_heldCount.cls ≠ "java/lang/invoke/MethodHandle" ∧ yX6_heldCount.cls ≠ "java/lang/invoke/VarHandle" ∧ (parseMethodDescriptor yX6_heldCount.desc).map (fun d => d.parameters.length) = some 1 := by decide +kernel
set_option maxRecDepth 100000 in
set_option maxHeartbeats 4000000 in
theorem mX6_heldCount (l : Launch) (D : va_G) (k : Nat → ClassId) (v : Nat) (h : Nat → Nat) (a : Nat → Nat) {P : Nat → Nat → Int32} {X : Nat → Int32} {p1 : Int32} {r : Int32}  (he : xX6_heldCount P p1 = some r) : CtI l D k yX6_heldCount wsX6_heldCount ({ frames := 1, cells := 0, slots := 0, locals := 22 } : Room) [.ref v, .int p1] (wSurvey k v h a P X) r (wSurvey k v h a P X) := by
  intro sz9
  refine cSt (lv := [(0, .ref v), (1, .int p1)]) (own := RX6) (cc := cX6_heldCount) (nL := 4) (ret := (some .int)) (by decide +kernel) rfl rfl (Nat.le_of_ble_eq_true rfl) rfl ?_
  intro pp ee ss mm bl me co hsz hC0 hP hD hS ls hl
  subst hsz
  obtain ⟨hx, hb, hr, hml, hown, hts, hK, hlk⟩ := hC0
  have hA : ∀ q, ss.heap.size ≤ q → va_A (wSurvey k v h a P X) ss.heap.size q := fun q h => Or.inr h
  have iX6 : ∀ w ∈ wsX60, w ∈ wsX6_heldCount := fun _ h => List.mem_cons_of_mem _ (List.mem_append_left _ (List.mem_append_right _ h))
  have w1 := hts (.fieldLink RX6 9 "DeadListPool$Survey" "pool" "LDeadListPool$Pool;") (List.mem_of_getElem? (i := 1) rfl)
  have B4 : ∀ (n4 : Nat) (x1 : Int32) (x2 : Int32) (x3 : Int32), xX6_heldCount_4 P n4 x1 x2 x3 = some r → ∀ (H : Heap) (locs : List Loc), va_P D vwCl (wSurvey k v h a P X) H → va_D (va_A (wSurvey k v h a P X) ss.heap.size) (wSurvey k v h a P X) → va_S (va_A (wSurvey k v h a P X) ss.heap.size) ss.heap H locs → ∀ ls : Array Slot, lv_has ls 4 [(0, .ref v), (1, .int x1), (2, .int x2), (3, .int x3)] → W pp l ee ({ frames := 1, cells := 0, slots := 0, locals := 22 } : Room) ss mm ([.ref v, .int p1] : List Value).toArray bl me co H locs 0 0 (MQ bl (cQi D k (wSurvey k v h a P X) ss.heap.size r (wSurvey k v h a P X)) ([.ref v, .int p1] : List Value).toArray ss 0 0 (va_A (wSurvey k v h a P X) ss.heap.size)) (F0 mm 4 ls []) := by
    intro n4
    induction n4 with
    | zero =>
      intro x1 x2 x3 he
      exact absurd (show (none : Option (Int32)) = some r from he) (by simp)
    | succ n4 ih4 =>
      intro x1 x2 x3 he H locs hP hD hS ls hl
      refine lv_iload_n hx hb dX6_heldCount_4 rfl (lv_at hl 3 rfl) ?_
      refine lv_bipush (v := 12) hx hb dX6_heldCount_5 (by decide) ?_
      refine lv_icmp_ge (tgt := 32) hx hb dX6_heldCount_7 (by decide) (fun c1 => ?_) (fun c1 => ?_)
      · have he := ifp he c1
        refine lv_iload_n hx hb dX6_heldCount_32 rfl (lv_at hl 2 rfl) ?_
        obtain rfl := some1 he
        exact cRi hx hb hr hlk hK rfl hP hD hS dX6_heldCount_33
      · have he := ifn he c1
        refine lv_aload_n hx hb dX6_heldCount_10 rfl (lv_at hl 0 rfl) ?_
        refine va_get (D := D) (ci := 6) (v := .ref (a 0)) (C := RX6) (T := TX6) (N := 2) hx hb hts iX6 hown hK hP 0 rfl rfl 0 (by decide) w1 (fun _ h9 => h9) rfl dX6_heldCount_11 ?_
        refine lv_iload_n hx hb dX6_heldCount_14 rfl (lv_at hl 1 rfl) ?_
        refine lv_iload_n hx hb dX6_heldCount_15 rfl (lv_at hl 3 rfl) ?_
        obtain ⟨v2, h3, he⟩ := bn1_i he
        refine cVir (As := [.int x1, .int x3]) (rest := []) ⟨hx, hb, hml, hown, hts⟩ hK hA hP hD hS (mX4_blockIn l D k a (P := P) h3) (cwV 2 hts gX6_heldCount_X4_blockIn rfl rfl rfl kX4_blockIn ⟨Nat.le_of_ble_eq_true rfl, Nat.le_of_ble_eq_true rfl⟩) [3, 4, 5, 6, 7, 8, 9, 10, 11, 12] rfl rfl 0 rfl rfl rfl hl.1 rfl (Nat.le_of_ble_eq_true rfl) ⟨Nat.le_refl 0, Nat.le_refl 0⟩ dX6_heldCount_16 (fun H locs hP hD hS => ?_)
        refine lv_iconst (v := (-1)) hx hb dX6_heldCount_19 (by decide) ?_
        refine lv_icmp_eq (tgt := 26) hx hb dX6_heldCount_20 (by decide) (fun c4 => ?_) (fun c4 => ?_)
        · have he := ifp he c4
          refine lv_iinc (v := (x3 + 1)) (lv' := [(3, .int (x3 + 1)), (0, .ref v), (1, .int x1), (2, .int x2)]) hx hb dX6_heldCount_26 hl (k := 3) rfl rfl (by decide) rfl (fun ls hl => ?_)
          refine lv_goto (tgt := 4) hx hb dX6_heldCount_29 (by decide) ?_
          exact ih4 x1 x2 (x3 + 1) he H locs hP hD hS ls (lv_sub hl [1, 2, 3, 0] rfl)
        · have he := ifn he c4
          refine lv_iinc (v := (x2 + 1)) (lv' := [(2, .int (x2 + 1)), (0, .ref v), (1, .int x1), (3, .int x3)]) hx hb dX6_heldCount_23 hl (k := 2) rfl rfl (by decide) rfl (fun ls hl => ?_)
          refine lv_iinc (v := (x3 + 1)) (lv' := [(3, .int (x3 + 1)), (2, .int (x2 + 1)), (0, .ref v), (1, .int x1)]) hx hb dX6_heldCount_26 hl (k := 3) rfl rfl (by decide) rfl (fun ls hl => ?_)
          refine lv_goto (tgt := 4) hx hb dX6_heldCount_29 (by decide) ?_
          exact ih4 x1 (x2 + 1) (x3 + 1) he H locs hP hD hS ls (lv_sub hl [2, 3, 1, 0] rfl)
  have hS0 := hS
  have key : ∀ (H : Heap) (locs : List Loc), H = ss.heap → locs = [] → va_P D vwCl (wSurvey k v h a P X) H → va_S (va_A (wSurvey k v h a P X) ss.heap.size) ss.heap H locs → W pp l ee ({ frames := 1, cells := 0, slots := 0, locals := 22 } : Room) ss mm ([.ref v, .int p1] : List Value).toArray bl me co H locs 0 0 (MQ bl (cQi D k (wSurvey k v h a P X) ss.heap.size r (wSurvey k v h a P X)) ([.ref v, .int p1] : List Value).toArray ss 0 0 (va_A (wSurvey k v h a P X) ss.heap.size)) (F0 mm 0 ls []) := by
    intro H locs _ _ hP hS
    refine lv_iconst (v := 0) hx hb dX6_heldCount_0 (by decide) ?_
    refine lv_istore_n (lv' := [(2, .int 0), (0, .ref v), (1, .int p1)]) hx hb dX6_heldCount_1 rfl hl (by decide) rfl (fun ls hl => ?_)
    refine lv_iconst (v := 0) hx hb dX6_heldCount_2 (by decide) ?_
    refine lv_istore_n (lv' := [(3, .int 0), (2, .int 0), (0, .ref v), (1, .int p1)]) hx hb dX6_heldCount_3 rfl hl (by decide) rfl (fun ls hl => ?_)
    exact B4 600 p1 0 0 he H locs hP hD hS ls (lv_sub hl [2, 3, 1, 0] rfl)
  exact key ss.heap [] rfl rfl hP hS
theorem kX6_tellThing : yX6_tellThing.cls = RX6 ∧ yX6_tellThing.cls ≠ "java/lang/invoke/MethodHandle" ∧ yX6_tellThing.cls ≠ "java/lang/invoke/VarHandle" ∧ (parseMethodDescriptor yX6_tellThing.desc).map (fun d => d.parameters.length) = some 2 := by decide +kernel
set_option maxRecDepth 100000 in
set_option maxHeartbeats 4000000 in
theorem mX6_tellThing (l : Launch) (D : va_G) (k : Nat → ClassId) (v : Nat) (h : Nat → Nat) (a : Nat → Nat) {P : Nat → Nat → Int32} {X : Nat → Int32} {p1 : Int32} {p2 : Int32} {r : Int32}  (he : xX6_tellThing P p1 p2 = some r) : CtI l D k yX6_tellThing wsX6_tellThing ({ frames := 3, cells := 0, slots := 0, locals := 66 } : Room) [.ref v, .int p1, .int p2] (wSurvey k v h a P X) r (wSurvey k v h a P X) := by
  intro sz9
  refine cSt (lv := [(0, .ref v), (1, .int p1), (2, .int p2)]) (own := RX6) (cc := cX6_tellThing) (nL := 4) (ret := (some .int)) (by decide +kernel) rfl rfl (Nat.le_of_ble_eq_true rfl) rfl ?_
  intro pp ee ss mm bl me co hsz hC0 hP hD hS ls hl
  subst hsz
  obtain ⟨hx, hb, hr, hml, hown, hts, hK, hlk⟩ := hC0
  have hA : ∀ q, ss.heap.size ≤ q → va_A (wSurvey k v h a P X) ss.heap.size q := fun q h => Or.inr h
  have iX6 : ∀ w ∈ wsX60, w ∈ wsX6_tellThing := fun _ h => List.mem_cons_of_mem _ (List.mem_append_left _ (List.mem_append_right _ h))
  have w1 := hts (.fieldLink RX6 9 "DeadListPool$Survey" "pool" "LDeadListPool$Pool;") (List.mem_of_getElem? (i := 1) rfl)
  have hS0 := hS
  have key : ∀ (H : Heap) (locs : List Loc), H = ss.heap → locs = [] → va_P D vwCl (wSurvey k v h a P X) H → va_S (va_A (wSurvey k v h a P X) ss.heap.size) ss.heap H locs → W pp l ee ({ frames := 3, cells := 0, slots := 0, locals := 66 } : Room) ss mm ([.ref v, .int p1, .int p2] : List Value).toArray bl me co H locs 0 0 (MQ bl (cQi D k (wSurvey k v h a P X) ss.heap.size r (wSurvey k v h a P X)) ([.ref v, .int p1, .int p2] : List Value).toArray ss 0 0 (va_A (wSurvey k v h a P X) ss.heap.size)) (F0 mm 0 ls []) := by
    intro H locs _ _ hP hS
    refine lv_iload_n hx hb dX6_tellThing_0 rfl (lv_at hl 2 rfl) ?_
    refine lv_if_lt (tgt := 10) hx hb dX6_tellThing_1 (by decide) (fun c1001 => ?_) (fun c1001 => ?_)
    · have he := ifp he c1001
      refine lv_bipush (v := (-2)) hx hb dX6_tellThing_10 (by decide) ?_
      obtain rfl := some1 he
      exact cRi hx hb hr hlk hK rfl hP hD hS dX6_tellThing_12
    · have he := ifn he c1001
      refine lv_iload_n hx hb dX6_tellThing_4 rfl (lv_at hl 2 rfl) ?_
      refine lv_bipush (v := 9) hx hb dX6_tellThing_5 (by decide) ?_
      refine lv_icmp_le (tgt := 13) hx hb dX6_tellThing_7 (by decide) (fun c1002 => ?_) (fun c1002 => ?_)
      · have he := ifp he c1002
        refine lv_aload_n hx hb dX6_tellThing_13 rfl (lv_at hl 0 rfl) ?_
        refine va_get (D := D) (ci := 6) (v := .ref (a 0)) (C := RX6) (T := TX6) (N := 2) hx hb hts iX6 hown hK hP 0 rfl rfl 0 (by decide) w1 (fun _ h9 => h9) rfl dX6_tellThing_14 ?_
        refine lv_iload_n hx hb dX6_tellThing_17 rfl (lv_at hl 1 rfl) ?_
        obtain ⟨v1003, h1004, he⟩ := bn1_i he
        refine cVir (As := [.int p1]) (rest := []) ⟨hx, hb, hml, hown, hts⟩ hK hA hP hD hS (mX4_refusalOfNumber l D k a (P := P) h1004) (cwV 1 hts gX6_tellThing_X4_refusalOfNumber rfl rfl rfl kX4_refusalOfNumber ⟨Nat.le_of_ble_eq_true rfl, Nat.le_of_ble_eq_true rfl⟩) [3, 4, 5, 6, 7, 8, 9, 10, 11, 12] rfl rfl 0 rfl rfl rfl hl.1 rfl (Nat.le_of_ble_eq_true rfl) ⟨Nat.le_refl 0, Nat.le_refl 0⟩ dX6_tellThing_18 (fun H locs hP hD hS => ?_)
        refine lv_istore_n (lv' := [(3, .int v1003), (0, .ref v), (1, .int p1), (2, .int p2)]) hx hb dX6_tellThing_21 rfl hl (by decide) rfl (fun ls hl => ?_)
        refine lv_iload_n hx hb dX6_tellThing_22 rfl (lv_at hl 0 rfl) ?_
        refine lv_if_eq (tgt := 28) hx hb dX6_tellThing_23 (by decide) (fun c1005 => ?_) (fun c1005 => ?_)
        · have he := ifp he c1005
          refine lv_iload_n hx hb dX6_tellThing_28 rfl (lv_at hl 3 rfl) ?_
          by_cases c1006 : p2 = 0
          · have he := ifp he c1006
            refine lv_tableIn (off := 51) (tgt := 80) hx hb dX6_tellThing_29 (by rw [c1006]; decide) (by rw [c1006]; decide) (by rw [c1006]; rfl) (by decide) ?_
            refine lv_aload_n hx hb dX6_tellThing_80 rfl (lv_at hl 1 rfl) ?_
            refine va_get (D := D) (ci := 6) (v := .ref (a 0)) (C := RX6) (T := TX6) (N := 2) hx hb hts iX6 hown hK hP 0 rfl rfl 0 (by decide) w1 (fun _ h9 => h9) rfl dX6_tellThing_81 ?_
            refine lv_iload_n hx hb dX6_tellThing_84 rfl (lv_at hl 2 rfl) ?_
            obtain ⟨v1007, h1008, he⟩ := bn1_i he
            refine cVir (As := [.int p1]) (rest := []) ⟨hx, hb, hml, hown, hts⟩ hK hA hP hD hS (mX4_kindOf l D k a (P := P) h1008) (cwV 1 hts gX6_tellThing_X4_kindOf rfl rfl rfl kX4_kindOf ⟨Nat.le_of_ble_eq_true rfl, Nat.le_of_ble_eq_true rfl⟩) [3, 4, 5, 6, 7, 8, 9, 10, 11, 12] rfl rfl 0 rfl rfl rfl hl.1 rfl (Nat.le_of_ble_eq_true rfl) ⟨Nat.le_refl 0, Nat.le_refl 0⟩ dX6_tellThing_85 (fun H locs hP hD hS => ?_)
            obtain rfl := some1 he
            exact cRi hx hb hr hlk hK rfl hP hD hS dX6_tellThing_88
          · have he := ifn he c1006
            by_cases c1009 : p2 = 1
            · have he := ifp he c1009
              refine lv_tableIn (off := 60) (tgt := 89) hx hb dX6_tellThing_29 (by rw [c1009]; decide) (by rw [c1009]; decide) (by rw [c1009]; rfl) (by decide) ?_
              refine lv_aload_n hx hb dX6_tellThing_89 rfl (lv_at hl 1 rfl) ?_
              refine va_get (D := D) (ci := 6) (v := .ref (a 0)) (C := RX6) (T := TX6) (N := 2) hx hb hts iX6 hown hK hP 0 rfl rfl 0 (by decide) w1 (fun _ h9 => h9) rfl dX6_tellThing_90 ?_
              refine lv_iload_n hx hb dX6_tellThing_93 rfl (lv_at hl 2 rfl) ?_
              obtain ⟨v1010, h1011, he⟩ := bn1_i he
              refine cVir (As := [.int p1]) (rest := []) ⟨hx, hb, hml, hown, hts⟩ hK hA hP hD hS (mX4_madeOf l D k a (P := P) h1011) (cwV 1 hts gX6_tellThing_X4_madeOf rfl rfl rfl kX4_madeOf ⟨Nat.le_of_ble_eq_true rfl, Nat.le_of_ble_eq_true rfl⟩) [3, 4, 5, 6, 7, 8, 9, 10, 11, 12] rfl rfl 0 rfl rfl rfl hl.1 rfl (Nat.le_of_ble_eq_true rfl) ⟨Nat.le_refl 0, Nat.le_refl 0⟩ dX6_tellThing_94 (fun H locs hP hD hS => ?_)
              obtain rfl := some1 he
              exact cRi hx hb hr hlk hK rfl hP hD hS dX6_tellThing_97
            · have he := ifn he c1009
              by_cases c1012 : p2 = 2
              · have he := ifp he c1012
                refine lv_tableIn (off := 69) (tgt := 98) hx hb dX6_tellThing_29 (by rw [c1012]; decide) (by rw [c1012]; decide) (by rw [c1012]; rfl) (by decide) ?_
                refine lv_aload_n hx hb dX6_tellThing_98 rfl (lv_at hl 1 rfl) ?_
                refine va_get (D := D) (ci := 6) (v := .ref (a 0)) (C := RX6) (T := TX6) (N := 2) hx hb hts iX6 hown hK hP 0 rfl rfl 0 (by decide) w1 (fun _ h9 => h9) rfl dX6_tellThing_99 ?_
                refine lv_iload_n hx hb dX6_tellThing_102 rfl (lv_at hl 2 rfl) ?_
                obtain ⟨v1013, h1014, he⟩ := bn1_i he
                refine cVir (As := [.int p1]) (rest := []) ⟨hx, hb, hml, hown, hts⟩ hK hA hP hD hS (mX4_prevOf l D k a (P := P) h1014) (cwV 1 hts gX6_tellThing_X4_prevOf rfl rfl rfl kX4_prevOf ⟨Nat.le_of_ble_eq_true rfl, Nat.le_of_ble_eq_true rfl⟩) [3, 4, 5, 6, 7, 8, 9, 10, 11, 12] rfl rfl 0 rfl rfl rfl hl.1 rfl (Nat.le_of_ble_eq_true rfl) ⟨Nat.le_refl 0, Nat.le_refl 0⟩ dX6_tellThing_103 (fun H locs hP hD hS => ?_)
                obtain rfl := some1 he
                exact cRi hx hb hr hlk hK rfl hP hD hS dX6_tellThing_106
              · have he := ifn he c1012
                by_cases c1015 : p2 = 3
                · have he := ifp he c1015
                  refine lv_tableIn (off := 78) (tgt := 107) hx hb dX6_tellThing_29 (by rw [c1015]; decide) (by rw [c1015]; decide) (by rw [c1015]; rfl) (by decide) ?_
                  refine lv_aload_n hx hb dX6_tellThing_107 rfl (lv_at hl 1 rfl) ?_
                  refine va_get (D := D) (ci := 6) (v := .ref (a 0)) (C := RX6) (T := TX6) (N := 2) hx hb hts iX6 hown hK hP 0 rfl rfl 0 (by decide) w1 (fun _ h9 => h9) rfl dX6_tellThing_108 ?_
                  refine lv_iload_n hx hb dX6_tellThing_111 rfl (lv_at hl 2 rfl) ?_
                  obtain ⟨v1016, h1017, he⟩ := bn1_i he
                  refine cVir (As := [.int p1]) (rest := []) ⟨hx, hb, hml, hown, hts⟩ hK hA hP hD hS (mX4_ownerOf l D k a (P := P) h1017) (cwV 1 hts gX6_tellThing_X4_ownerOf rfl rfl rfl kX4_ownerOf ⟨Nat.le_of_ble_eq_true rfl, Nat.le_of_ble_eq_true rfl⟩) [3, 4, 5, 6, 7, 8, 9, 10, 11, 12] rfl rfl 0 rfl rfl rfl hl.1 rfl (Nat.le_of_ble_eq_true rfl) ⟨Nat.le_refl 0, Nat.le_refl 0⟩ dX6_tellThing_112 (fun H locs hP hD hS => ?_)
                  obtain rfl := some1 he
                  exact cRi hx hb hr hlk hK rfl hP hD hS dX6_tellThing_115
                · have he := ifn he c1015
                  by_cases c1018 : p2 = 4
                  · have he := ifp he c1018
                    refine lv_tableIn (off := 87) (tgt := 116) hx hb dX6_tellThing_29 (by rw [c1018]; decide) (by rw [c1018]; decide) (by rw [c1018]; rfl) (by decide) ?_
                    refine lv_aload_n hx hb dX6_tellThing_116 rfl (lv_at hl 1 rfl) ?_
                    refine va_get (D := D) (ci := 6) (v := .ref (a 0)) (C := RX6) (T := TX6) (N := 2) hx hb hts iX6 hown hK hP 0 rfl rfl 0 (by decide) w1 (fun _ h9 => h9) rfl dX6_tellThing_117 ?_
                    refine lv_iload_n hx hb dX6_tellThing_120 rfl (lv_at hl 2 rfl) ?_
                    obtain ⟨v1019, h1020, he⟩ := bn1_i he
                    refine cVir (As := [.int p1]) (rest := []) ⟨hx, hb, hml, hown, hts⟩ hK hA hP hD hS (mX4_originOf l D k a (P := P) h1020) (cwV 1 hts gX6_tellThing_X4_originOf rfl rfl rfl kX4_originOf ⟨Nat.le_of_ble_eq_true rfl, Nat.le_of_ble_eq_true rfl⟩) [3, 4, 5, 6, 7, 8, 9, 10, 11, 12] rfl rfl 0 rfl rfl rfl hl.1 rfl (Nat.le_of_ble_eq_true rfl) ⟨Nat.le_refl 0, Nat.le_refl 0⟩ dX6_tellThing_121 (fun H locs hP hD hS => ?_)
                    obtain rfl := some1 he
                    exact cRi hx hb hr hlk hK rfl hP hD hS dX6_tellThing_124
                  · have he := ifn he c1018
                    by_cases c1021 : p2 = 5
                    · have he := ifp he c1021
                      refine lv_tableIn (off := 96) (tgt := 125) hx hb dX6_tellThing_29 (by rw [c1021]; decide) (by rw [c1021]; decide) (by rw [c1021]; rfl) (by decide) ?_
                      refine lv_aload_n hx hb dX6_tellThing_125 rfl (lv_at hl 1 rfl) ?_
                      refine va_get (D := D) (ci := 6) (v := .ref (a 0)) (C := RX6) (T := TX6) (N := 2) hx hb hts iX6 hown hK hP 0 rfl rfl 0 (by decide) w1 (fun _ h9 => h9) rfl dX6_tellThing_126 ?_
                      refine lv_iload_n hx hb dX6_tellThing_129 rfl (lv_at hl 2 rfl) ?_
                      obtain ⟨v1022, h1023, he⟩ := bn1_i he
                      refine cVir (As := [.int p1]) (rest := []) ⟨hx, hb, hml, hown, hts⟩ hK hA hP hD hS (mX4_nextCount l D k a (P := P) h1023) (cwV 1 hts gX6_tellThing_X4_nextCount rfl rfl rfl kX4_nextCount ⟨Nat.le_of_ble_eq_true rfl, Nat.le_of_ble_eq_true rfl⟩) [3, 4, 5, 6, 7, 8, 9, 10, 11, 12] rfl rfl 0 rfl rfl rfl hl.1 rfl (Nat.le_of_ble_eq_true rfl) ⟨Nat.le_refl 0, Nat.le_refl 0⟩ dX6_tellThing_130 (fun H locs hP hD hS => ?_)
                      obtain rfl := some1 he
                      exact cRi hx hb hr hlk hK rfl hP hD hS dX6_tellThing_133
                    · have he := ifn he c1021
                      by_cases c1024 : p2 = 6
                      · have he := ifp he c1024
                        refine lv_tableIn (off := 105) (tgt := 134) hx hb dX6_tellThing_29 (by rw [c1024]; decide) (by rw [c1024]; decide) (by rw [c1024]; rfl) (by decide) ?_
                        refine lv_aload_n hx hb dX6_tellThing_134 rfl (lv_at hl 1 rfl) ?_
                        refine lv_iload_n hx hb dX6_tellThing_135 rfl (lv_at hl 2 rfl) ?_
                        obtain ⟨v1025, h1026, he⟩ := bn1_i he
                        refine cVir (As := [.int p1]) (rest := []) ⟨hx, hb, hml, hown, hts⟩ hK hA hP hD hS (mX6_heldCount l D k v h a (P := P) (X := X) h1026) (cwV 1 hts gX6_tellThing_X6_heldCount rfl rfl rfl kX6_heldCount ⟨Nat.le_of_ble_eq_true rfl, Nat.le_of_ble_eq_true rfl⟩) [0, 1, 2, 3, 4, 5, 6, 7, 8, 9, 10, 11, 12] rfl rfl 0 rfl rfl rfl hl.1 rfl (Nat.le_of_ble_eq_true rfl) ⟨Nat.le_refl 0, Nat.le_refl 0⟩ dX6_tellThing_136 (fun H locs hP hD hS => ?_)
                        obtain rfl := some1 he
                        exact cRi hx hb hr hlk hK rfl hP hD hS dX6_tellThing_139
                      · have he := ifn he c1024
                        by_cases c1027 : p2 = 7
                        · have he := ifp he c1027
                          refine lv_tableIn (off := 111) (tgt := 140) hx hb dX6_tellThing_29 (by rw [c1027]; decide) (by rw [c1027]; decide) (by rw [c1027]; rfl) (by decide) ?_
                          refine lv_aload_n hx hb dX6_tellThing_140 rfl (lv_at hl 1 rfl) ?_
                          refine va_get (D := D) (ci := 6) (v := .ref (a 0)) (C := RX6) (T := TX6) (N := 2) hx hb hts iX6 hown hK hP 0 rfl rfl 0 (by decide) w1 (fun _ h9 => h9) rfl dX6_tellThing_141 ?_
                          refine lv_iload_n hx hb dX6_tellThing_144 rfl (lv_at hl 2 rfl) ?_
                          obtain ⟨v1028, h1029, he⟩ := bn1_i he
                          refine cVir (As := [.int p1]) (rest := []) ⟨hx, hb, hml, hown, hts⟩ hK hA hP hD hS (mX4_tagsOf l D k a (P := P) h1029) (cwV 1 hts gX6_tellThing_X4_tagsOf rfl rfl rfl kX4_tagsOf ⟨Nat.le_of_ble_eq_true rfl, Nat.le_of_ble_eq_true rfl⟩) [3, 4, 5, 6, 7, 8, 9, 10, 11, 12] rfl rfl 0 rfl rfl rfl hl.1 rfl (Nat.le_of_ble_eq_true rfl) ⟨Nat.le_refl 0, Nat.le_refl 0⟩ dX6_tellThing_145 (fun H locs hP hD hS => ?_)
                          obtain rfl := some1 he
                          exact cRi hx hb hr hlk hK rfl hP hD hS dX6_tellThing_148
                        · have he := ifn he c1027
                          by_cases c1030 : p2 = 8
                          · have he := ifp he c1030
                            refine lv_tableIn (off := 120) (tgt := 149) hx hb dX6_tellThing_29 (by rw [c1030]; decide) (by rw [c1030]; decide) (by rw [c1030]; rfl) (by decide) ?_
                            refine lv_aload_n hx hb dX6_tellThing_149 rfl (lv_at hl 1 rfl) ?_
                            refine va_get (D := D) (ci := 6) (v := .ref (a 0)) (C := RX6) (T := TX6) (N := 2) hx hb hts iX6 hown hK hP 0 rfl rfl 0 (by decide) w1 (fun _ h9 => h9) rfl dX6_tellThing_150 ?_
                            refine lv_iload_n hx hb dX6_tellThing_153 rfl (lv_at hl 2 rfl) ?_
                            obtain ⟨v1031, h1032, he⟩ := bn1_i he
                            refine cVir (As := [.int p1]) (rest := []) ⟨hx, hb, hml, hown, hts⟩ hK hA hP hD hS (mX4_quotaOf l D k a (P := P) h1032) (cwV 1 hts gX6_tellThing_X4_quotaOf rfl rfl rfl kX4_quotaOf ⟨Nat.le_of_ble_eq_true rfl, Nat.le_of_ble_eq_true rfl⟩) [3, 4, 5, 6, 7, 8, 9, 10, 11, 12] rfl rfl 0 rfl rfl rfl hl.1 rfl (Nat.le_of_ble_eq_true rfl) ⟨Nat.le_refl 0, Nat.le_refl 0⟩ dX6_tellThing_154 (fun H locs hP hD hS => ?_)
                            obtain rfl := some1 he
                            exact cRi hx hb hr hlk hK rfl hP hD hS dX6_tellThing_157
                          · have he := ifn he c1030
                            have tc1006 : Int32.toInt p2 ≠ 0 := fun z => c1006 (Int32.toInt_inj.mp z)
                            have tc1009 : Int32.toInt p2 ≠ 1 := fun z => c1009 (Int32.toInt_inj.mp z)
                            have tc1012 : Int32.toInt p2 ≠ 2 := fun z => c1012 (Int32.toInt_inj.mp z)
                            have tc1015 : Int32.toInt p2 ≠ 3 := fun z => c1015 (Int32.toInt_inj.mp z)
                            have tc1018 : Int32.toInt p2 ≠ 4 := fun z => c1018 (Int32.toInt_inj.mp z)
                            have tc1021 : Int32.toInt p2 ≠ 5 := fun z => c1021 (Int32.toInt_inj.mp z)
                            have tc1024 : Int32.toInt p2 ≠ 6 := fun z => c1024 (Int32.toInt_inj.mp z)
                            have tc1027 : Int32.toInt p2 ≠ 7 := fun z => c1027 (Int32.toInt_inj.mp z)
                            have tc1030 : Int32.toInt p2 ≠ 8 := fun z => c1030 (Int32.toInt_inj.mp z)
                            refine lv_tableOut (tgt := 158) hx hb dX6_tellThing_29 (by omega) (by decide) ?_
                            refine lv_aload_n hx hb dX6_tellThing_158 rfl (lv_at hl 1 rfl) ?_
                            refine va_get (D := D) (ci := 6) (v := .ref (a 0)) (C := RX6) (T := TX6) (N := 2) hx hb hts iX6 hown hK hP 0 rfl rfl 0 (by decide) w1 (fun _ h9 => h9) rfl dX6_tellThing_159 ?_
                            refine lv_iload_n hx hb dX6_tellThing_162 rfl (lv_at hl 2 rfl) ?_
                            obtain ⟨v1033, h1034, he⟩ := bn1_i he
                            refine cVir (As := [.int p1]) (rest := []) ⟨hx, hb, hml, hown, hts⟩ hK hA hP hD hS (mX4_ownCount l D k a (P := P) h1034) (cwV 1 hts gX6_tellThing_X4_ownCount rfl rfl rfl kX4_ownCount ⟨Nat.le_of_ble_eq_true rfl, Nat.le_of_ble_eq_true rfl⟩) [3, 4, 5, 6, 7, 8, 9, 10, 11, 12] rfl rfl 0 rfl rfl rfl hl.1 rfl (Nat.le_of_ble_eq_true rfl) ⟨Nat.le_refl 0, Nat.le_refl 0⟩ dX6_tellThing_163 (fun H locs hP hD hS => ?_)
                            obtain rfl := some1 he
                            exact cRi hx hb hr hlk hK rfl hP hD hS dX6_tellThing_166
        · have he := ifn he c1005
          refine lv_iload_n hx hb dX6_tellThing_26 rfl (lv_at hl 0 rfl) ?_
          obtain rfl := some1 he
          exact cRi hx hb hr hlk hK rfl hP hD hS dX6_tellThing_27
      · have he := ifn he c1002
        refine lv_bipush (v := (-2)) hx hb dX6_tellThing_10 (by decide) ?_
        obtain rfl := some1 he
        exact cRi hx hb hr hlk hK rfl hP hD hS dX6_tellThing_12
  exact key ss.heap [] rfl rfl hP hS
theorem kX6_tellSlot : yX6_tellSlot.cls = RX6 ∧ yX6_tellSlot.cls ≠ "java/lang/invoke/MethodHandle" ∧ yX6_tellSlot.cls ≠ "java/lang/invoke/VarHandle" ∧ (parseMethodDescriptor yX6_tellSlot.desc).map (fun d => d.parameters.length) = some 2 := by decide +kernel
set_option maxRecDepth 100000 in
set_option maxHeartbeats 4000000 in
theorem mX6_tellSlot (l : Launch) (D : va_G) (k : Nat → ClassId) (v : Nat) (h : Nat → Nat) (a : Nat → Nat) {P : Nat → Nat → Int32} {X : Nat → Int32} {p1 : Int32} {p2 : Int32} {r : Int32}  (he : xX6_tellSlot P p1 p2 = some r) : CtI l D k yX6_tellSlot wsX6_tellSlot ({ frames := 2, cells := 0, slots := 0, locals := 43 } : Room) [.ref v, .int p1, .int p2] (wSurvey k v h a P X) r (wSurvey k v h a P X) := by
  intro sz9
  refine cSt (lv := [(0, .ref v), (1, .int p1), (2, .int p2)]) (own := RX6) (cc := cX6_tellSlot) (nL := 4) (ret := (some .int)) (by decide +kernel) rfl rfl (Nat.le_of_ble_eq_true rfl) rfl ?_
  intro pp ee ss mm bl me co hsz hC0 hP hD hS ls hl
  subst hsz
  obtain ⟨hx, hb, hr, hml, hown, hts, hK, hlk⟩ := hC0
  have hA : ∀ q, ss.heap.size ≤ q → va_A (wSurvey k v h a P X) ss.heap.size q := fun q h => Or.inr h
  have iX6 : ∀ w ∈ wsX60, w ∈ wsX6_tellSlot := fun _ h => List.mem_cons_of_mem _ (List.mem_append_left _ (List.mem_append_right _ h))
  have w1 := hts (.fieldLink RX6 9 "DeadListPool$Survey" "pool" "LDeadListPool$Pool;") (List.mem_of_getElem? (i := 1) rfl)
  have hS0 := hS
  have key : ∀ (H : Heap) (locs : List Loc), H = ss.heap → locs = [] → va_P D vwCl (wSurvey k v h a P X) H → va_S (va_A (wSurvey k v h a P X) ss.heap.size) ss.heap H locs → W pp l ee ({ frames := 2, cells := 0, slots := 0, locals := 43 } : Room) ss mm ([.ref v, .int p1, .int p2] : List Value).toArray bl me co H locs 0 0 (MQ bl (cQi D k (wSurvey k v h a P X) ss.heap.size r (wSurvey k v h a P X)) ([.ref v, .int p1, .int p2] : List Value).toArray ss 0 0 (va_A (wSurvey k v h a P X) ss.heap.size)) (F0 mm 0 ls []) := by
    intro H locs _ _ hP hS
    refine lv_iload_n hx hb dX6_tellSlot_0 rfl (lv_at hl 2 rfl) ?_
    refine lv_if_lt (tgt := 10) hx hb dX6_tellSlot_1 (by decide) (fun c1001 => ?_) (fun c1001 => ?_)
    · have he := ifp he c1001
      refine lv_bipush (v := (-2)) hx hb dX6_tellSlot_10 (by decide) ?_
      obtain rfl := some1 he
      exact cRi hx hb hr hlk hK rfl hP hD hS dX6_tellSlot_12
    · have he := ifn he c1001
      refine lv_iload_n hx hb dX6_tellSlot_4 rfl (lv_at hl 2 rfl) ?_
      refine lv_bipush (v := 12) hx hb dX6_tellSlot_5 (by decide) ?_
      refine lv_icmp_lt (tgt := 13) hx hb dX6_tellSlot_7 (by decide) (fun c1002 => ?_) (fun c1002 => ?_)
      · have he := ifp he c1002
        refine lv_aload_n hx hb dX6_tellSlot_13 rfl (lv_at hl 0 rfl) ?_
        refine va_get (D := D) (ci := 6) (v := .ref (a 0)) (C := RX6) (T := TX6) (N := 2) hx hb hts iX6 hown hK hP 0 rfl rfl 0 (by decide) w1 (fun _ h9 => h9) rfl dX6_tellSlot_14 ?_
        refine lv_iload_n hx hb dX6_tellSlot_17 rfl (lv_at hl 1 rfl) ?_
        obtain ⟨v1003, h1004, he⟩ := bn1_i he
        refine cVir (As := [.int p1]) (rest := []) ⟨hx, hb, hml, hown, hts⟩ hK hA hP hD hS (mX4_refusalAsHolder l D k a (P := P) h1004) (cwV 1 hts gX6_tellSlot_X4_refusalAsHolder rfl rfl rfl kX4_refusalAsHolder ⟨Nat.le_of_ble_eq_true rfl, Nat.le_of_ble_eq_true rfl⟩) [3, 4, 5, 6, 7, 8, 9, 10, 11, 12] rfl rfl 0 rfl rfl rfl hl.1 rfl (Nat.le_of_ble_eq_true rfl) ⟨Nat.le_refl 0, Nat.le_refl 0⟩ dX6_tellSlot_18 (fun H locs hP hD hS => ?_)
        refine lv_istore_n (lv' := [(3, .int v1003), (0, .ref v), (1, .int p1), (2, .int p2)]) hx hb dX6_tellSlot_21 rfl hl (by decide) rfl (fun ls hl => ?_)
        refine lv_iload_n hx hb dX6_tellSlot_22 rfl (lv_at hl 0 rfl) ?_
        refine lv_if_eq (tgt := 30) hx hb dX6_tellSlot_23 (by decide) (fun c1005 => ?_) (fun c1005 => ?_)
        · have he := ifp he c1005
          refine lv_aload_n hx hb dX6_tellSlot_30 rfl (lv_at hl 1 rfl) ?_
          refine va_get (D := D) (ci := 6) (v := .ref (a 0)) (C := RX6) (T := TX6) (N := 2) hx hb hts iX6 hown hK hP 0 rfl rfl 0 (by decide) w1 (fun _ h9 => h9) rfl dX6_tellSlot_31 ?_
          refine lv_iload_n hx hb dX6_tellSlot_34 rfl (lv_at hl 2 rfl) ?_
          refine lv_iload_n hx hb dX6_tellSlot_35 rfl (lv_at hl 3 rfl) ?_
          obtain ⟨v1006, h1007, he⟩ := bn1_i he
          refine cVir (As := [.int p1, .int p2]) (rest := []) ⟨hx, hb, hml, hown, hts⟩ hK hA hP hD hS (mX4_blockIn l D k a (P := P) h1007) (cwV 2 hts gX6_tellSlot_X4_blockIn rfl rfl rfl kX4_blockIn ⟨Nat.le_of_ble_eq_true rfl, Nat.le_of_ble_eq_true rfl⟩) [3, 4, 5, 6, 7, 8, 9, 10, 11, 12] rfl rfl 0 rfl rfl rfl hl.1 rfl (Nat.le_of_ble_eq_true rfl) ⟨Nat.le_refl 0, Nat.le_refl 0⟩ dX6_tellSlot_36 (fun H locs hP hD hS => ?_)
          obtain rfl := some1 he
          exact cRi hx hb hr hlk hK rfl hP hD hS dX6_tellSlot_39
        · have he := ifn he c1005
          refine lv_iload_n hx hb dX6_tellSlot_26 rfl (lv_at hl 0 rfl) ?_
          refine lv_goto (tgt := 39) hx hb dX6_tellSlot_27 (by decide) ?_
          obtain rfl := some1 he
          exact cRi hx hb hr hlk hK rfl hP hD hS dX6_tellSlot_39
      · have he := ifn he c1002
        refine lv_bipush (v := (-2)) hx hb dX6_tellSlot_10 (by decide) ?_
        obtain rfl := some1 he
        exact cRi hx hb hr hlk hK rfl hP hD hS dX6_tellSlot_12
  exact key ss.heap [] rfl rfl hP hS
theorem kX6_tellBlock : yX6_tellBlock.cls = RX6 ∧ yX6_tellBlock.cls ≠ "java/lang/invoke/MethodHandle" ∧ yX6_tellBlock.cls ≠ "java/lang/invoke/VarHandle" ∧ (parseMethodDescriptor yX6_tellBlock.desc).map (fun d => d.parameters.length) = some 2 := by decide +kernel
set_option maxRecDepth 100000 in
set_option maxHeartbeats 4000000 in
theorem mX6_tellBlock (l : Launch) (D : va_G) (k : Nat → ClassId) (v : Nat) (h : Nat → Nat) (a : Nat → Nat) {P : Nat → Nat → Int32} {X_0 : Nat → Int32} {p1 : Int32} {p2 : Int32} {r : Int32} {X' : Nat → Int32} (he : xX6_tellBlock P X_0 p1 p2 = some (r, X')) : CtI l D k yX6_tellBlock wsX6_tellBlock ({ frames := 2, cells := 0, slots := 0, locals := 45 } : Room) [.ref v, .int p1, .int p2] (wSurvey k v h a P X_0) r (wSurvey k v h a P X') := by
  intro sz9
  refine cSt (lv := [(0, .ref v), (1, .int p1), (2, .int p2)]) (own := RX6) (cc := cX6_tellBlock) (nL := 3) (ret := (some .int)) (by decide +kernel) rfl rfl (Nat.le_of_ble_eq_true rfl) rfl ?_
  intro pp ee ss mm bl me co hsz hC0 hP hD hS ls hl
  subst hsz
  obtain ⟨hx, hb, hr, hml, hown, hts, hK, hlk⟩ := hC0
  have hA : ∀ q, ss.heap.size ≤ q → va_A (wSurvey k v h a P X_0) ss.heap.size q := fun q h => Or.inr h
  have iX6 : ∀ w ∈ wsX60, w ∈ wsX6_tellBlock := fun _ h => List.mem_cons_of_mem _ (List.mem_append_left _ (List.mem_append_left _ (List.mem_append_right _ h)))
  have w1 := hts (.fieldLink RX6 9 "DeadListPool$Survey" "pool" "LDeadListPool$Pool;") (List.mem_of_getElem? (i := 1) rfl)
  have w2 := hts (.fieldLink RX6 20 "DeadListPool$Survey" "holders" "LDeadListPool$Holders;") (List.mem_of_getElem? (i := 2) rfl)
  have hS0 := hS
  have key : ∀ (H : Heap) (locs : List Loc), H = ss.heap → locs = [] → va_P D vwCl (wSurvey k v h a P X_0) H → va_S (va_A (wSurvey k v h a P X_0) ss.heap.size) ss.heap H locs → W pp l ee ({ frames := 2, cells := 0, slots := 0, locals := 45 } : Room) ss mm ([.ref v, .int p1, .int p2] : List Value).toArray bl me co H locs 0 0 (MQ bl (cQi D k (wSurvey k v h a P X_0) ss.heap.size r (wSurvey k v h a P X')) ([.ref v, .int p1, .int p2] : List Value).toArray ss 0 0 (va_A (wSurvey k v h a P X_0) ss.heap.size)) (F0 mm 0 ls []) := by
    intro H locs _ _ hP hS
    refine lv_iload_n hx hb dX6_tellBlock_0 rfl (lv_at hl 2 rfl) ?_
    refine lv_if_lt (tgt := 9) hx hb dX6_tellBlock_1 (by decide) (fun c1001 => ?_) (fun c1001 => ?_)
    · have he := ifp he c1001
      refine lv_bipush (v := (-2)) hx hb dX6_tellBlock_9 (by decide) ?_
      obtain ⟨rfl, rfl⟩ := some2 he
      exact cRi hx hb hr hlk hK rfl hP hD hS dX6_tellBlock_11
    · have he := ifn he c1001
      refine lv_iload_n hx hb dX6_tellBlock_4 rfl (lv_at hl 2 rfl) ?_
      refine lv_iconst (v := 2) hx hb dX6_tellBlock_5 (by decide) ?_
      refine lv_icmp_le (tgt := 12) hx hb dX6_tellBlock_6 (by decide) (fun c1002 => ?_) (fun c1002 => ?_)
      · have he := ifp he c1002
        refine lv_iload_n hx hb dX6_tellBlock_12 rfl (lv_at hl 1 rfl) ?_
        refine lv_if_lt (tgt := 22) hx hb dX6_tellBlock_13 (by decide) (fun c1003 => ?_) (fun c1003 => ?_)
        · have he := ifp he c1003
          refine lv_bipush (v := (-12)) hx hb dX6_tellBlock_22 (by decide) ?_
          obtain ⟨rfl, rfl⟩ := some2 he
          exact cRi hx hb hr hlk hK rfl hP hD hS dX6_tellBlock_24
        · have he := ifn he c1003
          refine lv_iload_n hx hb dX6_tellBlock_16 rfl (lv_at hl 1 rfl) ?_
          refine lv_bipush (v := 96) hx hb dX6_tellBlock_17 (by decide) ?_
          refine lv_icmp_lt (tgt := 25) hx hb dX6_tellBlock_19 (by decide) (fun c1004 => ?_) (fun c1004 => ?_)
          · have he := ifp he c1004
            refine lv_aload_n hx hb dX6_tellBlock_25 rfl (lv_at hl 0 rfl) ?_
            refine va_get (D := D) (ci := 6) (v := .ref (a 0)) (C := RX6) (T := TX6) (N := 2) hx hb hts iX6 hown hK hP 0 rfl rfl 0 (by decide) w1 (fun _ h9 => h9) rfl dX6_tellBlock_26 ?_
            refine lv_iload_n hx hb dX6_tellBlock_29 rfl (lv_at hl 1 rfl) ?_
            obtain ⟨v1005, h1006, he⟩ := bn1_i he
            refine cVir (As := [.int p1]) (rest := []) ⟨hx, hb, hml, hown, hts⟩ hK hA hP hD hS (mX4_sizeOf l D k a (P := P) h1006) (cwV 1 hts gX6_tellBlock_X4_sizeOf rfl rfl rfl kX4_sizeOf ⟨Nat.le_of_ble_eq_true rfl, Nat.le_of_ble_eq_true rfl⟩) [3, 4, 5, 6, 7, 8, 9, 10, 11, 12] rfl rfl 0 rfl rfl rfl hl.1 rfl (Nat.le_of_ble_eq_true rfl) ⟨Nat.le_refl 0, Nat.le_refl 0⟩ dX6_tellBlock_30 (fun H locs hP hD hS => ?_)
            refine lv_if_ne (tgt := 39) hx hb dX6_tellBlock_33 (by decide) (fun c1007 => ?_) (fun c1007 => ?_)
            · have he := ifn he c1007
              refine lv_iload_n hx hb dX6_tellBlock_39 rfl (lv_at hl 2 rfl) ?_
              by_cases c1008 : p2 = 0
              · have he := ifp he c1008
                refine lv_lookup (off := 28) (tgt := 68) hx hb dX6_tellBlock_40 (by decide) (by rw [c1008]; decide) (by decide) ?_
                refine lv_aload_n hx hb dX6_tellBlock_68 rfl (lv_at hl 0 rfl) ?_
                refine va_get (D := D) (ci := 6) (v := .ref (a 0)) (C := RX6) (T := TX6) (N := 2) hx hb hts iX6 hown hK hP 0 rfl rfl 0 (by decide) w1 (fun _ h9 => h9) rfl dX6_tellBlock_69 ?_
                refine lv_iload_n hx hb dX6_tellBlock_72 rfl (lv_at hl 1 rfl) ?_
                obtain ⟨v1009, h1010, he⟩ := bn1_i he
                refine cVir (As := [.int p1]) (rest := []) ⟨hx, hb, hml, hown, hts⟩ hK hA hP hD hS (mX4_sizeOf l D k a (P := P) h1010) (cwV 1 hts gX6_tellBlock_X4_sizeOf rfl rfl rfl kX4_sizeOf ⟨Nat.le_of_ble_eq_true rfl, Nat.le_of_ble_eq_true rfl⟩) [3, 4, 5, 6, 7, 8, 9, 10, 11, 12] rfl rfl 0 rfl rfl rfl hl.1 rfl (Nat.le_of_ble_eq_true rfl) ⟨Nat.le_refl 0, Nat.le_refl 0⟩ dX6_tellBlock_73 (fun H locs hP hD hS => ?_)
                obtain ⟨rfl, rfl⟩ := some2 he
                exact cRi hx hb hr hlk hK rfl hP hD hS dX6_tellBlock_76
              · have he := ifn he c1008
                by_cases c1011 : p2 = 1
                · have he := ifp he c1011
                  refine lv_lookup (off := 37) (tgt := 77) hx hb dX6_tellBlock_40 (by decide) (by rw [c1011]; decide) (by decide) ?_
                  refine lv_aload_n hx hb dX6_tellBlock_77 rfl (lv_at hl 0 rfl) ?_
                  refine va_get (D := D) (ci := 6) (v := .ref (a 0)) (C := RX6) (T := TX6) (N := 2) hx hb hts iX6 hown hK hP 0 rfl rfl 0 (by decide) w1 (fun _ h9 => h9) rfl dX6_tellBlock_78 ?_
                  refine lv_iload_n hx hb dX6_tellBlock_81 rfl (lv_at hl 1 rfl) ?_
                  obtain ⟨v1012, h1013, he⟩ := bn1_i he
                  refine cVir (As := [.int p1]) (rest := []) ⟨hx, hb, hml, hown, hts⟩ hK hA hP hD hS (mX4_birthOf l D k a (P := P) h1013) (cwV 1 hts gX6_tellBlock_X4_birthOf rfl rfl rfl kX4_birthOf ⟨Nat.le_of_ble_eq_true rfl, Nat.le_of_ble_eq_true rfl⟩) [3, 4, 5, 6, 7, 8, 9, 10, 11, 12] rfl rfl 0 rfl rfl rfl hl.1 rfl (Nat.le_of_ble_eq_true rfl) ⟨Nat.le_refl 0, Nat.le_refl 0⟩ dX6_tellBlock_82 (fun H locs hP hD hS => ?_)
                  obtain ⟨rfl, rfl⟩ := some2 he
                  exact cRi hx hb hr hlk hK rfl hP hD hS dX6_tellBlock_85
                · have he := ifn he c1011
                  have tc1008 : Int32.toInt p2 ≠ 0 := fun z => c1008 (Int32.toInt_inj.mp z)
                  have tc1011 : Int32.toInt p2 ≠ 1 := fun z => c1011 (Int32.toInt_inj.mp z)
                  refine lv_lookup (off := 46) (tgt := 86) hx hb dX6_tellBlock_40 (by decide) (lkOut2 tc1008 tc1011) (by decide) ?_
                  refine lv_aload_n hx hb dX6_tellBlock_86 rfl (lv_at hl 0 rfl) ?_
                  refine va_get (D := D) (ci := 6) (v := .ref (h 0)) (C := RX6) (T := TX6) (N := 2) hx hb hts iX6 hown hK hP 0 rfl rfl 1 (by decide) w2 (fun _ h9 => h9) rfl dX6_tellBlock_87 ?_
                  obtain ⟨X1014, h1015, he⟩ := bn1_i he
                  refine cVv (wf := (wSurvey k v h a P X1014)) (As := []) (rest := []) ⟨hx, hb, hml, hown, hts⟩ hK hA hP hD hS (mX2_look l D k h a (P := P) (X_0 := X_0) h1015) (cwV 0 hts gX6_tellBlock_X2_look rfl rfl rfl kX2_look ⟨Nat.le_of_ble_eq_true rfl, Nat.le_of_ble_eq_true rfl⟩) [1, 2, 3, 4, 5, 6, 7, 8, 9, 10, 11, 12] rfl rfl rfl [true, false, false, false, false, false, false, false, false, false, false, false, false] ⟨rfl, trivial⟩ 13 rfl (by decide +kernel) rfl 0 rfl rfl rfl hl.1 rfl (Nat.le_of_ble_eq_true rfl) ⟨Nat.le_refl 0, Nat.le_refl 0⟩ dX6_tellBlock_90 (fun H locs hP hD hS => ?_)
                  refine lv_aload_n hx hb dX6_tellBlock_93 rfl (lv_at hl 0 rfl) ?_
                  refine va_get (D := D) (ci := 6) (v := .ref (h 0)) (C := RX6) (T := TX6) (N := 2) hx hb hts iX6 hown hK hP 0 rfl rfl 1 (by decide) w2 (fun _ h9 => h9) rfl dX6_tellBlock_94 ?_
                  refine lv_iload_n hx hb dX6_tellBlock_97 rfl (lv_at hl 1 rfl) ?_
                  obtain ⟨v1016, h1017, he⟩ := bn1_i he
                  refine cVir (As := [.int p1]) (rest := []) ⟨hx, hb, hml, hown, hts⟩ hK hA hP hD hS (mX2_setOf l D k h a (P := P) (X := X1014) h1017) (cwV 1 hts gX6_tellBlock_X2_setOf rfl rfl rfl kX2_setOf ⟨Nat.le_of_ble_eq_true rfl, Nat.le_of_ble_eq_true rfl⟩) [1, 2, 3, 4, 5, 6, 7, 8, 9, 10, 11, 12] rfl rfl 0 rfl rfl rfl hl.1 rfl (Nat.le_of_ble_eq_true rfl) ⟨Nat.le_refl 0, Nat.le_refl 0⟩ dX6_tellBlock_98 (fun H locs hP hD hS => ?_)
                  obtain ⟨v1018, h1019, he⟩ := bn1_i he
                  refine cSi (rest := []) ⟨hx, hb, hml, hown, hts⟩ hK hA hP hD hS (mJ6_bitCount_0f7a4 l D k h1019) (va_cwS 1 hts gX6_tellBlock_J6_bitCount_0f7a4 rfl rfl rfl kJ6_bitCount_0f7a4 ⟨Nat.le_of_ble_eq_true rfl, Nat.le_of_ble_eq_true rfl⟩) rfl hl.1 rfl (Nat.le_of_ble_eq_true rfl) ⟨Nat.le_refl 0, Nat.le_refl 0⟩ dX6_tellBlock_101 (fun H locs hP hD hS => ?_)
                  obtain ⟨rfl, rfl⟩ := some2 he
                  exact cRi hx hb hr hlk hK rfl hP hD hS dX6_tellBlock_104
            · have he := ifp he c1007
              refine lv_bipush (v := (-11)) hx hb dX6_tellBlock_36 (by decide) ?_
              obtain ⟨rfl, rfl⟩ := some2 he
              exact cRi hx hb hr hlk hK rfl hP hD hS dX6_tellBlock_38
          · have he := ifn he c1004
            refine lv_bipush (v := (-12)) hx hb dX6_tellBlock_22 (by decide) ?_
            obtain ⟨rfl, rfl⟩ := some2 he
            exact cRi hx hb hr hlk hK rfl hP hD hS dX6_tellBlock_24
      · have he := ifn he c1002
        refine lv_bipush (v := (-2)) hx hb dX6_tellBlock_9 (by decide) ?_
        obtain ⟨rfl, rfl⟩ := some2 he
        exact cRi hx hb hr hlk hK rfl hP hD hS dX6_tellBlock_11
  exact key ss.heap [] rfl rfl hP hS
theorem kX6_tellTaken : yX6_tellTaken.cls = RX6 ∧ yX6_tellTaken.cls ≠ "java/lang/invoke/MethodHandle" ∧ yX6_tellTaken.cls ≠ "java/lang/invoke/VarHandle" ∧ (parseMethodDescriptor yX6_tellTaken.desc).map (fun d => d.parameters.length) = some 2 := by decide +kernel
set_option maxRecDepth 100000 in
set_option maxHeartbeats 4000000 in
theorem mX6_tellTaken (l : Launch) (D : va_G) (k : Nat → ClassId) (v : Nat) (h : Nat → Nat) (a : Nat → Nat) {P : Nat → Nat → Int32} {X : Nat → Int32} {p1 : Int32} {p2 : Int32} {r : Int32}  (he : xX6_tellTaken P p1 p2 = some r) : CtI l D k yX6_tellTaken wsX6_tellTaken ({ frames := 2, cells := 0, slots := 0, locals := 46 } : Room) [.ref v, .int p1, .int p2] (wSurvey k v h a P X) r (wSurvey k v h a P X) := by
  intro sz9
  refine cSt (lv := [(0, .ref v), (1, .int p1), (2, .int p2)]) (own := RX6) (cc := cX6_tellTaken) (nL := 4) (ret := (some .int)) (by decide +kernel) rfl rfl (Nat.le_of_ble_eq_true rfl) rfl ?_
  intro pp ee ss mm bl me co hsz hC0 hP hD hS ls hl
  subst hsz
  obtain ⟨hx, hb, hr, hml, hown, hts, hK, hlk⟩ := hC0
  have hA : ∀ q, ss.heap.size ≤ q → va_A (wSurvey k v h a P X) ss.heap.size q := fun q h => Or.inr h
  have iX6 : ∀ w ∈ wsX60, w ∈ wsX6_tellTaken := fun _ h => List.mem_cons_of_mem _ (List.mem_append_left _ (List.mem_append_right _ h))
  have w1 := hts (.fieldLink RX6 9 "DeadListPool$Survey" "pool" "LDeadListPool$Pool;") (List.mem_of_getElem? (i := 1) rfl)
  have hS0 := hS
  have key : ∀ (H : Heap) (locs : List Loc), H = ss.heap → locs = [] → va_P D vwCl (wSurvey k v h a P X) H → va_S (va_A (wSurvey k v h a P X) ss.heap.size) ss.heap H locs → W pp l ee ({ frames := 2, cells := 0, slots := 0, locals := 46 } : Room) ss mm ([.ref v, .int p1, .int p2] : List Value).toArray bl me co H locs 0 0 (MQ bl (cQi D k (wSurvey k v h a P X) ss.heap.size r (wSurvey k v h a P X)) ([.ref v, .int p1, .int p2] : List Value).toArray ss 0 0 (va_A (wSurvey k v h a P X) ss.heap.size)) (F0 mm 0 ls []) := by
    intro H locs _ _ hP hS
    refine lv_iload_n hx hb dX6_tellTaken_0 rfl (lv_at hl 2 rfl) ?_
    refine lv_if_lt (tgt := 9) hx hb dX6_tellTaken_1 (by decide) (fun c1001 => ?_) (fun c1001 => ?_)
    · have he := ifp he c1001
      refine lv_bipush (v := (-2)) hx hb dX6_tellTaken_9 (by decide) ?_
      obtain rfl := some1 he
      exact cRi hx hb hr hlk hK rfl hP hD hS dX6_tellTaken_11
    · have he := ifn he c1001
      refine lv_iload_n hx hb dX6_tellTaken_4 rfl (lv_at hl 2 rfl) ?_
      refine lv_iconst (v := 4) hx hb dX6_tellTaken_5 (by decide) ?_
      refine lv_icmp_le (tgt := 12) hx hb dX6_tellTaken_6 (by decide) (fun c1002 => ?_) (fun c1002 => ?_)
      · have he := ifp he c1002
        refine lv_aload_n hx hb dX6_tellTaken_12 rfl (lv_at hl 0 rfl) ?_
        refine va_get (D := D) (ci := 6) (v := .ref (a 0)) (C := RX6) (T := TX6) (N := 2) hx hb hts iX6 hown hK hP 0 rfl rfl 0 (by decide) w1 (fun _ h9 => h9) rfl dX6_tellTaken_13 ?_
        refine lv_iload_n hx hb dX6_tellTaken_16 rfl (lv_at hl 1 rfl) ?_
        refine lv_iload_n hx hb dX6_tellTaken_17 rfl (lv_at hl 2 rfl) ?_
        obtain ⟨v1003, h1004, he⟩ := bn1_i he
        refine cVir (As := [.int p1, .int p2]) (rest := []) ⟨hx, hb, hml, hown, hts⟩ hK hA hP hD hS (mX4_refusalAs l D k a (P := P) h1004) (cwV 2 hts gX6_tellTaken_X4_refusalAs rfl rfl rfl kX4_refusalAs ⟨Nat.le_of_ble_eq_true rfl, Nat.le_of_ble_eq_true rfl⟩) [3, 4, 5, 6, 7, 8, 9, 10, 11, 12] rfl rfl 0 rfl rfl rfl hl.1 rfl (Nat.le_of_ble_eq_true rfl) ⟨Nat.le_refl 0, Nat.le_refl 0⟩ dX6_tellTaken_18 (fun H locs hP hD hS => ?_)
        refine lv_istore_n (lv' := [(3, .int v1003), (0, .ref v), (1, .int p1), (2, .int p2)]) hx hb dX6_tellTaken_21 rfl hl (by decide) rfl (fun ls hl => ?_)
        refine lv_iload_n hx hb dX6_tellTaken_22 rfl (lv_at hl 0 rfl) ?_
        refine lv_if_eq (tgt := 30) hx hb dX6_tellTaken_23 (by decide) (fun c1005 => ?_) (fun c1005 => ?_)
        · have he := ifp he c1005
          refine lv_aload_n hx hb dX6_tellTaken_30 rfl (lv_at hl 1 rfl) ?_
          refine va_get (D := D) (ci := 6) (v := .ref (a 0)) (C := RX6) (T := TX6) (N := 2) hx hb hts iX6 hown hK hP 0 rfl rfl 0 (by decide) w1 (fun _ h9 => h9) rfl dX6_tellTaken_31 ?_
          refine lv_iload_n hx hb dX6_tellTaken_34 rfl (lv_at hl 2 rfl) ?_
          obtain ⟨v1006, h1007, he⟩ := bn1_i he
          refine cVir (As := [.int p1]) (rest := []) ⟨hx, hb, hml, hown, hts⟩ hK hA hP hD hS (mX4_madeOf l D k a (P := P) h1007) (cwV 1 hts gX6_tellTaken_X4_madeOf rfl rfl rfl kX4_madeOf ⟨Nat.le_of_ble_eq_true rfl, Nat.le_of_ble_eq_true rfl⟩) [3, 4, 5, 6, 7, 8, 9, 10, 11, 12] rfl rfl 0 rfl rfl rfl hl.1 rfl (Nat.le_of_ble_eq_true rfl) ⟨Nat.le_refl 0, Nat.le_refl 0⟩ dX6_tellTaken_35 (fun H locs hP hD hS => ?_)
          obtain rfl := some1 he
          exact cRi hx hb hr hlk hK rfl hP hD hS dX6_tellTaken_38
        · have he := ifn he c1005
          refine lv_iload_n hx hb dX6_tellTaken_26 rfl (lv_at hl 0 rfl) ?_
          refine lv_goto (tgt := 38) hx hb dX6_tellTaken_27 (by decide) ?_
          obtain rfl := some1 he
          exact cRi hx hb hr hlk hK rfl hP hD hS dX6_tellTaken_38
      · have he := ifn he c1002
        refine lv_bipush (v := (-2)) hx hb dX6_tellTaken_9 (by decide) ?_
        obtain rfl := some1 he
        exact cRi hx hb hr hlk hK rfl hP hD hS dX6_tellTaken_11
  exact key ss.heap [] rfl rfl hP hS
theorem kX6_deadIn : yX6_deadIn.cls = RX6 ∧ yX6_deadIn.cls ≠ "java/lang/invoke/MethodHandle" ∧ yX6_deadIn.cls ≠ "java/lang/invoke/VarHandle" ∧ (parseMethodDescriptor yX6_deadIn.desc).map (fun d => d.parameters.length) = some 2 := by decide +kernel
set_option maxRecDepth 100000 in
set_option maxHeartbeats 4000000 in
theorem mX6_deadIn (l : Launch) (D : va_G) (k : Nat → ClassId) (v : Nat) (h : Nat → Nat) (a : Nat → Nat) {P : Nat → Nat → Int32} {X : Nat → Int32} {p1 : Int32} {p2 : Int32} {r : Int32}  (he : xX6_deadIn P p1 p2 = some r) : CtI l D k yX6_deadIn wsX6_deadIn ({ frames := 1, cells := 0, slots := 0, locals := 22 } : Room) [.ref v, .int p1, .int p2] (wSurvey k v h a P X) r (wSurvey k v h a P X) := by
  intro sz9
  refine cSt (lv := [(0, .ref v), (1, .int p1), (2, .int p2)]) (own := RX6) (cc := cX6_deadIn) (nL := 4) (ret := (some .int)) (by decide +kernel) rfl rfl (Nat.le_of_ble_eq_true rfl) rfl ?_
  intro pp ee ss mm bl me co hsz hC0 hP hD hS ls hl
  subst hsz
  obtain ⟨hx, hb, hr, hml, hown, hts, hK, hlk⟩ := hC0
  have hA : ∀ q, ss.heap.size ≤ q → va_A (wSurvey k v h a P X) ss.heap.size q := fun q h => Or.inr h
  have iX6 : ∀ w ∈ wsX60, w ∈ wsX6_deadIn := fun _ h => List.mem_cons_of_mem _ (List.mem_append_left _ (List.mem_append_right _ h))
  have w1 := hts (.fieldLink RX6 9 "DeadListPool$Survey" "pool" "LDeadListPool$Pool;") (List.mem_of_getElem? (i := 1) rfl)
  have hS0 := hS
  have key : ∀ (H : Heap) (locs : List Loc), H = ss.heap → locs = [] → va_P D vwCl (wSurvey k v h a P X) H → va_S (va_A (wSurvey k v h a P X) ss.heap.size) ss.heap H locs → W pp l ee ({ frames := 1, cells := 0, slots := 0, locals := 22 } : Room) ss mm ([.ref v, .int p1, .int p2] : List Value).toArray bl me co H locs 0 0 (MQ bl (cQi D k (wSurvey k v h a P X) ss.heap.size r (wSurvey k v h a P X)) ([.ref v, .int p1, .int p2] : List Value).toArray ss 0 0 (va_A (wSurvey k v h a P X) ss.heap.size)) (F0 mm 0 ls []) := by
    intro H locs _ _ hP hS
    refine lv_aload_n hx hb dX6_deadIn_0 rfl (lv_at hl 0 rfl) ?_
    refine va_get (D := D) (ci := 6) (v := .ref (a 0)) (C := RX6) (T := TX6) (N := 2) hx hb hts iX6 hown hK hP 0 rfl rfl 0 (by decide) w1 (fun _ h9 => h9) rfl dX6_deadIn_1 ?_
    refine lv_aload_n hx hb dX6_deadIn_4 rfl (lv_at hl 0 rfl) ?_
    refine va_get (D := D) (ci := 6) (v := .ref (a 0)) (C := RX6) (T := TX6) (N := 2) hx hb hts iX6 hown hK hP 0 rfl rfl 0 (by decide) w1 (fun _ h9 => h9) rfl dX6_deadIn_5 ?_
    refine lv_iload_n hx hb dX6_deadIn_8 rfl (lv_at hl 1 rfl) ?_
    obtain ⟨v1001, h1002, he⟩ := bn1_i he
    refine cVir (As := [.int p1]) (rest := [.ref (a 0)]) ⟨hx, hb, hml, hown, hts⟩ hK hA hP hD hS (mX4_prevOf l D k a (P := P) h1002) (cwV 1 hts gX6_deadIn_X4_prevOf rfl rfl rfl kX4_prevOf ⟨Nat.le_of_ble_eq_true rfl, Nat.le_of_ble_eq_true rfl⟩) [3, 4, 5, 6, 7, 8, 9, 10, 11, 12] rfl rfl 0 rfl rfl rfl hl.1 rfl (Nat.le_of_ble_eq_true rfl) ⟨Nat.le_refl 0, Nat.le_refl 0⟩ dX6_deadIn_9 (fun H locs hP hD hS => ?_)
    refine lv_iload_n hx hb dX6_deadIn_12 rfl (lv_at hl 2 rfl) ?_
    obtain ⟨v1003, h1004, he⟩ := bn1_i he
    refine cVir (As := [.int v1001, .int p2]) (rest := []) ⟨hx, hb, hml, hown, hts⟩ hK hA hP hD hS (mX4_blockIn l D k a (P := P) h1004) (cwV 2 hts gX6_deadIn_X4_blockIn rfl rfl rfl kX4_blockIn ⟨Nat.le_of_ble_eq_true rfl, Nat.le_of_ble_eq_true rfl⟩) [3, 4, 5, 6, 7, 8, 9, 10, 11, 12] rfl rfl 0 rfl rfl rfl hl.1 rfl (Nat.le_of_ble_eq_true rfl) ⟨Nat.le_refl 0, Nat.le_refl 0⟩ dX6_deadIn_13 (fun H locs hP hD hS => ?_)
    refine lv_istore_n (lv' := [(3, .int v1003), (0, .ref v), (1, .int p1), (2, .int p2)]) hx hb dX6_deadIn_16 rfl hl (by decide) rfl (fun ls hl => ?_)
    refine lv_iload_n hx hb dX6_deadIn_17 rfl (lv_at hl 0 rfl) ?_
    refine lv_aload_n hx hb dX6_deadIn_18 rfl (lv_at hl 1 rfl) ?_
    refine va_get (D := D) (ci := 6) (v := .ref (a 0)) (C := RX6) (T := TX6) (N := 2) hx hb hts iX6 hown hK hP 0 rfl rfl 0 (by decide) w1 (fun _ h9 => h9) rfl dX6_deadIn_19 ?_
    refine lv_iload_n hx hb dX6_deadIn_22 rfl (lv_at hl 2 rfl) ?_
    refine lv_iload_n hx hb dX6_deadIn_23 rfl (lv_at hl 3 rfl) ?_
    obtain ⟨v1005, h1006, he⟩ := bn1_i he
    refine cVir (As := [.int p1, .int p2]) (rest := [.int v1003]) ⟨hx, hb, hml, hown, hts⟩ hK hA hP hD hS (mX4_blockIn l D k a (P := P) h1006) (cwV 2 hts gX6_deadIn_X4_blockIn rfl rfl rfl kX4_blockIn ⟨Nat.le_of_ble_eq_true rfl, Nat.le_of_ble_eq_true rfl⟩) [3, 4, 5, 6, 7, 8, 9, 10, 11, 12] rfl rfl 0 rfl rfl rfl hl.1 rfl (Nat.le_of_ble_eq_true rfl) ⟨Nat.le_refl 0, Nat.le_refl 0⟩ dX6_deadIn_24 (fun H locs hP hD hS => ?_)
    refine lv_icmp_eq (tgt := 34) hx hb dX6_deadIn_27 (by decide) (fun c1007 => ?_) (fun c1007 => ?_)
    · have he := ifp he c1007
      refine lv_iconst (v := (-1)) hx hb dX6_deadIn_34 (by decide) ?_
      obtain rfl := some1 he
      exact cRi hx hb hr hlk hK rfl hP hD hS dX6_deadIn_35
    · have he := ifn he c1007
      refine lv_iload_n hx hb dX6_deadIn_30 rfl (lv_at hl 0 rfl) ?_
      refine lv_goto (tgt := 35) hx hb dX6_deadIn_31 (by decide) ?_
      obtain rfl := some1 he
      exact cRi hx hb hr hlk hK rfl hP hD hS dX6_deadIn_35
  exact key ss.heap [] rfl rfl hP hS
theorem kX6_isLater : yX6_isLater.cls = RX6 ∧ yX6_isLater.cls ≠ "java/lang/invoke/MethodHandle" ∧ yX6_isLater.cls ≠ "java/lang/invoke/VarHandle" ∧ (parseMethodDescriptor yX6_isLater.desc).map (fun d => d.parameters.length) = some 2 := by decide +kernel
set_option maxRecDepth 100000 in
set_option maxHeartbeats 4000000 in
theorem mX6_isLater (l : Launch) (D : va_G) (k : Nat → ClassId) (v : Nat) (h : Nat → Nat) (a : Nat → Nat) {P : Nat → Nat → Int32} {X : Nat → Int32} {p1 : Int32} {p2 : Int32} {r : Int32}  (he : xX6_isLater P p1 p2 = some r) : CtI l D k yX6_isLater wsX6_isLater ({ frames := 1, cells := 0, slots := 0, locals := 21 } : Room) [.ref v, .int p1, .int p2] (wSurvey k v h a P X) r (wSurvey k v h a P X) := by
  intro sz9
  refine cSt (lv := [(0, .ref v), (1, .int p1), (2, .int p2)]) (own := RX6) (cc := cX6_isLater) (nL := 4) (ret := (some .boolean)) (by decide +kernel) rfl rfl (Nat.le_of_ble_eq_true rfl) rfl ?_
  intro pp ee ss mm bl me co hsz hC0 hP hD hS ls hl
  subst hsz
  obtain ⟨hx, hb, hr, hml, hown, hts, hK, hlk⟩ := hC0
  have hA : ∀ q, ss.heap.size ≤ q → va_A (wSurvey k v h a P X) ss.heap.size q := fun q h => Or.inr h
  have iX6 : ∀ w ∈ wsX60, w ∈ wsX6_isLater := fun _ h => List.mem_cons_of_mem _ (List.mem_append_left _ (List.mem_append_right _ h))
  have w1 := hts (.fieldLink RX6 9 "DeadListPool$Survey" "pool" "LDeadListPool$Pool;") (List.mem_of_getElem? (i := 1) rfl)
  have hS0 := hS
  have key : ∀ (H : Heap) (locs : List Loc), H = ss.heap → locs = [] → va_P D vwCl (wSurvey k v h a P X) H → va_S (va_A (wSurvey k v h a P X) ss.heap.size) ss.heap H locs → W pp l ee ({ frames := 1, cells := 0, slots := 0, locals := 21 } : Room) ss mm ([.ref v, .int p1, .int p2] : List Value).toArray bl me co H locs 0 0 (MQ bl (cQi D k (wSurvey k v h a P X) ss.heap.size r (wSurvey k v h a P X)) ([.ref v, .int p1, .int p2] : List Value).toArray ss 0 0 (va_A (wSurvey k v h a P X) ss.heap.size)) (F0 mm 0 ls []) := by
    intro H locs _ _ hP hS
    refine lv_aload_n hx hb dX6_isLater_0 rfl (lv_at hl 0 rfl) ?_
    refine va_get (D := D) (ci := 6) (v := .ref (a 0)) (C := RX6) (T := TX6) (N := 2) hx hb hts iX6 hown hK hP 0 rfl rfl 0 (by decide) w1 (fun _ h9 => h9) rfl dX6_isLater_1 ?_
    refine lv_iload_n hx hb dX6_isLater_4 rfl (lv_at hl 1 rfl) ?_
    obtain ⟨v1001, h1002, he⟩ := bn1_i he
    refine cVir (As := [.int p1]) (rest := []) ⟨hx, hb, hml, hown, hts⟩ hK hA hP hD hS (mX4_birthOf l D k a (P := P) h1002) (cwV 1 hts gX6_isLater_X4_birthOf rfl rfl rfl kX4_birthOf ⟨Nat.le_of_ble_eq_true rfl, Nat.le_of_ble_eq_true rfl⟩) [3, 4, 5, 6, 7, 8, 9, 10, 11, 12] rfl rfl 0 rfl rfl rfl hl.1 rfl (Nat.le_of_ble_eq_true rfl) ⟨Nat.le_refl 0, Nat.le_refl 0⟩ dX6_isLater_5 (fun H locs hP hD hS => ?_)
    refine lv_aload_n hx hb dX6_isLater_8 rfl (lv_at hl 0 rfl) ?_
    refine va_get (D := D) (ci := 6) (v := .ref (a 0)) (C := RX6) (T := TX6) (N := 2) hx hb hts iX6 hown hK hP 0 rfl rfl 0 (by decide) w1 (fun _ h9 => h9) rfl dX6_isLater_9 ?_
    refine lv_iload_n hx hb dX6_isLater_12 rfl (lv_at hl 2 rfl) ?_
    obtain ⟨v1003, h1004, he⟩ := bn1_i he
    refine cVir (As := [.int p2]) (rest := [.int v1001]) ⟨hx, hb, hml, hown, hts⟩ hK hA hP hD hS (mX4_birthOf l D k a (P := P) h1004) (cwV 1 hts gX6_isLater_X4_birthOf rfl rfl rfl kX4_birthOf ⟨Nat.le_of_ble_eq_true rfl, Nat.le_of_ble_eq_true rfl⟩) [3, 4, 5, 6, 7, 8, 9, 10, 11, 12] rfl rfl 0 rfl rfl rfl hl.1 rfl (Nat.le_of_ble_eq_true rfl) ⟨Nat.le_refl 0, Nat.le_refl 0⟩ dX6_isLater_13 (fun H locs hP hD hS => ?_)
    obtain ⟨v1005, h1006, he⟩ := bn1_i he
    refine cSi (rest := []) ⟨hx, hb, hml, hown, hts⟩ hK hA hP hD hS (mJ6_compare_7cf53 l D k h1006) (va_cwS 2 hts gX6_isLater_J6_compare_7cf53 rfl rfl rfl kJ6_compare_7cf53 ⟨Nat.le_of_ble_eq_true rfl, Nat.le_of_ble_eq_true rfl⟩) rfl hl.1 rfl (Nat.le_of_ble_eq_true rfl) ⟨Nat.le_refl 0, Nat.le_refl 0⟩ dX6_isLater_16 (fun H locs hP hD hS => ?_)
    refine lv_istore_n (lv' := [(3, .int v1005), (0, .ref v), (1, .int p1), (2, .int p2)]) hx hb dX6_isLater_19 rfl hl (by decide) rfl (fun ls hl => ?_)
    refine lv_iload_n hx hb dX6_isLater_20 rfl (lv_at hl 0 rfl) ?_
    refine lv_if_eq (tgt := 36) hx hb dX6_isLater_21 (by decide) (fun c1007 => ?_) (fun c1007 => ?_)
    · have he := ifp he c1007
      refine lv_iload_n hx hb dX6_isLater_36 rfl (lv_at hl 2 rfl) ?_
      refine lv_iload_n hx hb dX6_isLater_37 rfl (lv_at hl 3 rfl) ?_
      refine lv_icmp_ge (tgt := 45) hx hb dX6_isLater_38 (by decide) (fun c1008 => ?_) (fun c1008 => ?_)
      · have he := ifp he c1008
        refine lv_iconst (v := 0) hx hb dX6_isLater_45 (by decide) ?_
        obtain rfl := some1 he
        exact cRi hx hb hr hlk hK rfl hP hD hS dX6_isLater_46
      · have he := ifn he c1008
        refine lv_iconst (v := 1) hx hb dX6_isLater_41 (by decide) ?_
        refine lv_goto (tgt := 46) hx hb dX6_isLater_42 (by decide) ?_
        obtain rfl := some1 he
        exact cRi hx hb hr hlk hK rfl hP hD hS dX6_isLater_46
    · have he := ifn he c1007
      refine lv_iload_n hx hb dX6_isLater_24 rfl (lv_at hl 0 rfl) ?_
      refine lv_if_le (tgt := 32) hx hb dX6_isLater_25 (by decide) (fun c1009 => ?_) (fun c1009 => ?_)
      · have he := ifp he c1009
        refine lv_iconst (v := 0) hx hb dX6_isLater_32 (by decide) ?_
        refine lv_goto (tgt := 46) hx hb dX6_isLater_33 (by decide) ?_
        obtain rfl := some1 he
        exact cRi hx hb hr hlk hK rfl hP hD hS dX6_isLater_46
      · have he := ifn he c1009
        refine lv_iconst (v := 1) hx hb dX6_isLater_28 (by decide) ?_
        refine lv_goto (tgt := 46) hx hb dX6_isLater_29 (by decide) ?_
        obtain rfl := some1 he
        exact cRi hx hb hr hlk hK rfl hP hD hS dX6_isLater_46
  exact key ss.heap [] rfl rfl hP hS
theorem kX6_tellDead : yX6_tellDead.cls = RX6 ∧ yX6_tellDead.cls ≠ "java/lang/invoke/MethodHandle" ∧ yX6_tellDead.cls ≠ "java/lang/invoke/VarHandle" ∧ (parseMethodDescriptor yX6_tellDead.desc).map (fun d => d.parameters.length) = some 2 := by decide +kernel
set_option maxRecDepth 100000 in
set_option maxHeartbeats 4000000 in
theorem mX6_tellDead (l : Launch) (D : va_G) (k : Nat → ClassId) (v : Nat) (h : Nat → Nat) (a : Nat → Nat) {P : Nat → Nat → Int32} {X : Nat → Int32} {p1 : Int32} {p2 : Int32} {r : Int32}  (he : xX6_tellDead P p1 p2 = some r) : CtI l D k yX6_tellDead wsX6_tellDead ({ frames := 2, cells := 0, slots := 0, locals := 45 } : Room) [.ref v, .int p1, .int p2] (wSurvey k v h a P X) r (wSurvey k v h a P X) := by
  intro sz9
  refine cSt (lv := [(0, .ref v), (1, .int p1), (2, .int p2)]) (own := RX6) (cc := cX6_tellDead) (nL := 9) (ret := (some .int)) (by decide +kernel) rfl rfl (Nat.le_of_ble_eq_true rfl) rfl ?_
  intro pp ee ss mm bl me co hsz hC0 hP hD hS ls hl
  subst hsz
  obtain ⟨hx, hb, hr, hml, hown, hts, hK, hlk⟩ := hC0
  have hA : ∀ q, ss.heap.size ≤ q → va_A (wSurvey k v h a P X) ss.heap.size q := fun q h => Or.inr h
  have iX6 : ∀ w ∈ wsX60, w ∈ wsX6_tellDead := fun _ h => List.mem_cons_of_mem _ (List.mem_append_left _ (List.mem_append_right _ h))
  have w1 := hts (.fieldLink RX6 9 "DeadListPool$Survey" "pool" "LDeadListPool$Pool;") (List.mem_of_getElem? (i := 1) rfl)
  have B39 : ∀ (n39 : Nat) (x1 : Int32) (x2 : Int32) (x4 : Int32) (x5 : Int32) (x6 : Int32) (x7 : Int32), xX6_tellDead_39 P n39 x1 x2 x4 x5 x6 x7 = some r → ∀ (H : Heap) (locs : List Loc), va_P D vwCl (wSurvey k v h a P X) H → va_D (va_A (wSurvey k v h a P X) ss.heap.size) (wSurvey k v h a P X) → va_S (va_A (wSurvey k v h a P X) ss.heap.size) ss.heap H locs → ∀ ls : Array Slot, lv_has ls 9 [(0, .ref v), (1, .int x1), (2, .int x2), (4, .int x4), (5, .int x5), (6, .int x6), (7, .int x7)] → W pp l ee ({ frames := 2, cells := 0, slots := 0, locals := 45 } : Room) ss mm ([.ref v, .int p1, .int p2] : List Value).toArray bl me co H locs 0 0 (MQ bl (cQi D k (wSurvey k v h a P X) ss.heap.size r (wSurvey k v h a P X)) ([.ref v, .int p1, .int p2] : List Value).toArray ss 0 0 (va_A (wSurvey k v h a P X) ss.heap.size)) (F0 mm 39 ls []) := by
    intro n39
    induction n39 with
    | zero =>
      intro x1 x2 x4 x5 x6 x7 he
      exact absurd (show (none : Option (Int32)) = some r from he) (by simp)
    | succ n39 ih39 =>
      have B88 : ∀ (x1 : Int32) (x2 : Int32) (x4 : Int32) (x6 : Int32) (x7 : Int32) (x8 : Int32) (y0 : Int32), xX6_tellDead_88 P (xX6_tellDead_39 P n39) x1 x2 x4 x6 x7 x8 y0 = some r → ∀ (H : Heap) (locs : List Loc), va_P D vwCl (wSurvey k v h a P X) H → va_D (va_A (wSurvey k v h a P X) ss.heap.size) (wSurvey k v h a P X) → va_S (va_A (wSurvey k v h a P X) ss.heap.size) ss.heap H locs → ∀ ls : Array Slot, lv_has ls 9 [(0, .ref v), (1, .int x1), (2, .int x2), (4, .int x4), (6, .int x6), (7, .int x7), (8, .int x8)] → W pp l ee ({ frames := 2, cells := 0, slots := 0, locals := 45 } : Room) ss mm ([.ref v, .int p1, .int p2] : List Value).toArray bl me co H locs 0 0 (MQ bl (cQi D k (wSurvey k v h a P X) ss.heap.size r (wSurvey k v h a P X)) ([.ref v, .int p1, .int p2] : List Value).toArray ss 0 0 (va_A (wSurvey k v h a P X) ss.heap.size)) (F0 mm 88 ls [.int y0]) := by
        intro x1 x2 x4 x6 x7 x8 y0 he H locs hP hD hS ls hl
        refine lv_istore (lv' := [(5, .int y0), (0, .ref v), (1, .int x1), (2, .int x2), (4, .int x4), (6, .int x6), (7, .int x7), (8, .int x8)]) hx hb dX6_tellDead_88 hl (by decide) rfl (fun ls hl => ?_)
        refine lv_iload hx hb dX6_tellDead_90 (lv_at hl 5 rfl) ?_
        refine lv_iconst (v := (-1)) hx hb dX6_tellDead_92 (by decide) ?_
        refine lv_icmp_eq (tgt := 107) hx hb dX6_tellDead_93 (by decide) (fun c1 => ?_) (fun c1 => ?_)
        · have he := ifp he c1
          refine lv_iload hx hb dX6_tellDead_107 (lv_at hl 7 rfl) ?_
          refine lv_goto (tgt := 114) hx hb dX6_tellDead_109 (by decide) ?_
          refine lv_istore (lv' := [(6, .int x8), (5, .int y0), (0, .ref v), (1, .int x1), (2, .int x2), (4, .int x4), (7, .int x7), (8, .int x8)]) hx hb dX6_tellDead_114 hl (by decide) rfl (fun ls hl => ?_)
          refine lv_iinc (v := (x7 + 1)) (lv' := [(7, .int (x7 + 1)), (6, .int x8), (5, .int y0), (0, .ref v), (1, .int x1), (2, .int x2), (4, .int x4), (8, .int x8)]) hx hb dX6_tellDead_116 hl (k := 6) rfl rfl (by decide) rfl (fun ls hl => ?_)
          refine lv_goto (tgt := 39) hx hb dX6_tellDead_119 (by decide) ?_
          exact ih39 x1 x2 x4 y0 x8 (x7 + 1) he H locs hP hD hS ls (lv_sub hl [3, 4, 5, 6, 2, 1, 0] rfl)
        · have he := ifn he c1
          refine lv_aload_n hx hb dX6_tellDead_96 rfl (lv_at hl 1 rfl) ?_
          refine lv_iload hx hb dX6_tellDead_97 (lv_at hl 5 rfl) ?_
          refine lv_iload hx hb dX6_tellDead_99 (lv_at hl 7 rfl) ?_
          obtain ⟨v2, h3, he⟩ := bn1_i he
          refine cVir (As := [.int x6, .int x8]) (rest := []) ⟨hx, hb, hml, hown, hts⟩ hK hA hP hD hS (mX6_isLater l D k v h a (P := P) (X := X) h3) (cwV 2 hts gX6_tellDead_X6_isLater rfl rfl rfl kX6_isLater ⟨Nat.le_of_ble_eq_true rfl, Nat.le_of_ble_eq_true rfl⟩) [0, 1, 2, 3, 4, 5, 6, 7, 8, 9, 10, 11, 12] rfl rfl 0 rfl rfl rfl hl.1 rfl (Nat.le_of_ble_eq_true rfl) ⟨Nat.le_refl 0, Nat.le_refl 0⟩ dX6_tellDead_101 (fun H locs hP hD hS => ?_)
          refine lv_if_eq (tgt := 112) hx hb dX6_tellDead_104 (by decide) (fun c4 => ?_) (fun c4 => ?_)
          · have he := ifp he c4
            refine lv_iload hx hb dX6_tellDead_112 (lv_at hl 5 rfl) ?_
            refine lv_istore (lv' := [(6, .int x6), (5, .int y0), (0, .ref v), (1, .int x1), (2, .int x2), (4, .int x4), (7, .int x7), (8, .int x8)]) hx hb dX6_tellDead_114 hl (by decide) rfl (fun ls hl => ?_)
            refine lv_iinc (v := (x7 + 1)) (lv' := [(7, .int (x7 + 1)), (6, .int x6), (5, .int y0), (0, .ref v), (1, .int x1), (2, .int x2), (4, .int x4), (8, .int x8)]) hx hb dX6_tellDead_116 hl (k := 6) rfl rfl (by decide) rfl (fun ls hl => ?_)
            refine lv_goto (tgt := 39) hx hb dX6_tellDead_119 (by decide) ?_
            exact ih39 x1 x2 x4 y0 x6 (x7 + 1) he H locs hP hD hS ls (lv_sub hl [3, 4, 5, 6, 2, 1, 0] rfl)
          · have he := ifn he c4
            refine lv_iload hx hb dX6_tellDead_107 (lv_at hl 7 rfl) ?_
            refine lv_goto (tgt := 114) hx hb dX6_tellDead_109 (by decide) ?_
            refine lv_istore (lv' := [(6, .int x8), (5, .int y0), (0, .ref v), (1, .int x1), (2, .int x2), (4, .int x4), (7, .int x7), (8, .int x8)]) hx hb dX6_tellDead_114 hl (by decide) rfl (fun ls hl => ?_)
            refine lv_iinc (v := (x7 + 1)) (lv' := [(7, .int (x7 + 1)), (6, .int x8), (5, .int y0), (0, .ref v), (1, .int x1), (2, .int x2), (4, .int x4), (8, .int x8)]) hx hb dX6_tellDead_116 hl (k := 6) rfl rfl (by decide) rfl (fun ls hl => ?_)
            refine lv_goto (tgt := 39) hx hb dX6_tellDead_119 (by decide) ?_
            exact ih39 x1 x2 x4 y0 x8 (x7 + 1) he H locs hP hD hS ls (lv_sub hl [3, 4, 5, 6, 2, 1, 0] rfl)
      intro x1 x2 x4 x5 x6 x7 he H locs hP hD hS ls hl
      refine lv_iload hx hb dX6_tellDead_39 (lv_at hl 6 rfl) ?_
      refine lv_bipush (v := 12) hx hb dX6_tellDead_41 (by decide) ?_
      refine lv_icmp_ge (tgt := 122) hx hb dX6_tellDead_43 (by decide) (fun c5 => ?_) (fun c5 => ?_)
      · have he := ifp he c5
        refine lv_iload_n hx hb dX6_tellDead_122 rfl (lv_at hl 2 rfl) ?_
        refine lv_if_ne (tgt := 129) hx hb dX6_tellDead_123 (by decide) (fun c6 => ?_) (fun c6 => ?_)
        · have he := ifn he c6
          refine lv_iload_n hx hb dX6_tellDead_129 rfl (lv_at hl 2 rfl) ?_
          refine lv_iconst (v := 1) hx hb dX6_tellDead_130 (by decide) ?_
          refine lv_icmp_ne (tgt := 139) hx hb dX6_tellDead_131 (by decide) (fun c7 => ?_) (fun c7 => ?_)
          · have he := ifn he c7
            refine lv_iload hx hb dX6_tellDead_139 (lv_at hl 5 rfl) ?_
            obtain rfl := some1 he
            exact cRi hx hb hr hlk hK rfl hP hD hS dX6_tellDead_141
          · have he := ifp he c7
            refine lv_iload hx hb dX6_tellDead_134 (lv_at hl 4 rfl) ?_
            refine lv_goto (tgt := 141) hx hb dX6_tellDead_136 (by decide) ?_
            obtain rfl := some1 he
            exact cRi hx hb hr hlk hK rfl hP hD hS dX6_tellDead_141
        · have he := ifp he c6
          refine lv_iload hx hb dX6_tellDead_126 (lv_at hl 3 rfl) ?_
          obtain rfl := some1 he
          exact cRi hx hb hr hlk hK rfl hP hD hS dX6_tellDead_128
      · have he := ifn he c5
        refine lv_aload_n hx hb dX6_tellDead_46 rfl (lv_at hl 0 rfl) ?_
        refine lv_iload_n hx hb dX6_tellDead_47 rfl (lv_at hl 1 rfl) ?_
        refine lv_iload hx hb dX6_tellDead_48 (lv_at hl 6 rfl) ?_
        obtain ⟨v8, h9, he⟩ := bn1_i he
        refine cVir (As := [.int x1, .int x7]) (rest := []) ⟨hx, hb, hml, hown, hts⟩ hK hA hP hD hS (mX6_deadIn l D k v h a (P := P) (X := X) h9) (cwV 2 hts gX6_tellDead_X6_deadIn rfl rfl rfl kX6_deadIn ⟨Nat.le_of_ble_eq_true rfl, Nat.le_of_ble_eq_true rfl⟩) [0, 1, 2, 3, 4, 5, 6, 7, 8, 9, 10, 11, 12] rfl rfl 0 rfl rfl rfl hl.1 rfl (Nat.le_of_ble_eq_true rfl) ⟨Nat.le_refl 0, Nat.le_refl 0⟩ dX6_tellDead_50 (fun H locs hP hD hS => ?_)
        refine lv_istore (lv' := [(8, .int v8), (0, .ref v), (1, .int x1), (2, .int x2), (4, .int x4), (5, .int x5), (6, .int x6), (7, .int x7)]) hx hb dX6_tellDead_53 hl (by decide) rfl (fun ls hl => ?_)
        refine lv_iload hx hb dX6_tellDead_55 (lv_at hl 0 rfl) ?_
        refine lv_iconst (v := (-1)) hx hb dX6_tellDead_57 (by decide) ?_
        refine lv_icmp_eq (tgt := 116) hx hb dX6_tellDead_58 (by decide) (fun c10 => ?_) (fun c10 => ?_)
        · have he := ifp he c10
          refine lv_iinc (v := (x7 + 1)) (lv' := [(7, .int (x7 + 1)), (8, .int v8), (0, .ref v), (1, .int x1), (2, .int x2), (4, .int x4), (5, .int x5), (6, .int x6)]) hx hb dX6_tellDead_116 hl (k := 7) rfl rfl (by decide) rfl (fun ls hl => ?_)
          refine lv_goto (tgt := 39) hx hb dX6_tellDead_119 (by decide) ?_
          exact ih39 x1 x2 x4 x5 x6 (x7 + 1) he H locs hP hD hS ls (lv_sub hl [2, 3, 4, 5, 6, 7, 0] rfl)
        · have he := ifn he c10
          refine lv_iinc (v := (x4 + 1)) (lv' := [(4, .int (x4 + 1)), (8, .int v8), (0, .ref v), (1, .int x1), (2, .int x2), (5, .int x5), (6, .int x6), (7, .int x7)]) hx hb dX6_tellDead_61 hl (k := 4) rfl rfl (by decide) rfl (fun ls hl => ?_)
          refine lv_iload hx hb dX6_tellDead_64 (lv_at hl 5 rfl) ?_
          refine lv_iconst (v := (-1)) hx hb dX6_tellDead_66 (by decide) ?_
          refine lv_icmp_eq (tgt := 81) hx hb dX6_tellDead_67 (by decide) (fun c11 => ?_) (fun c11 => ?_)
          · have he := ifp he c11
            refine lv_iload hx hb dX6_tellDead_81 (lv_at hl 1 rfl) ?_
            refine lv_goto (tgt := 88) hx hb dX6_tellDead_83 (by decide) ?_
            exact B88 x1 x2 (x4 + 1) x6 x7 v8 v8 he H locs hP hD hS ls (lv_sub hl [2, 3, 4, 0, 6, 7, 1] rfl)
          · have he := ifn he c11
            refine lv_aload_n hx hb dX6_tellDead_70 rfl (lv_at hl 2 rfl) ?_
            refine lv_iload hx hb dX6_tellDead_71 (lv_at hl 1 rfl) ?_
            refine lv_iload hx hb dX6_tellDead_73 (lv_at hl 5 rfl) ?_
            obtain ⟨v12, h13, he⟩ := bn1_i he
            refine cVir (As := [.int v8, .int x5]) (rest := []) ⟨hx, hb, hml, hown, hts⟩ hK hA hP hD hS (mX6_isLater l D k v h a (P := P) (X := X) h13) (cwV 2 hts gX6_tellDead_X6_isLater rfl rfl rfl kX6_isLater ⟨Nat.le_of_ble_eq_true rfl, Nat.le_of_ble_eq_true rfl⟩) [0, 1, 2, 3, 4, 5, 6, 7, 8, 9, 10, 11, 12] rfl rfl 0 rfl rfl rfl hl.1 rfl (Nat.le_of_ble_eq_true rfl) ⟨Nat.le_refl 0, Nat.le_refl 0⟩ dX6_tellDead_75 (fun H locs hP hD hS => ?_)
            refine lv_if_eq (tgt := 86) hx hb dX6_tellDead_78 (by decide) (fun c14 => ?_) (fun c14 => ?_)
            · have he := ifp he c14
              refine lv_iload hx hb dX6_tellDead_86 (lv_at hl 5 rfl) ?_
              exact B88 x1 x2 (x4 + 1) x6 x7 v8 x5 he H locs hP hD hS ls (lv_sub hl [2, 3, 4, 0, 6, 7, 1] rfl)
            · have he := ifn he c14
              refine lv_iload hx hb dX6_tellDead_81 (lv_at hl 1 rfl) ?_
              refine lv_goto (tgt := 88) hx hb dX6_tellDead_83 (by decide) ?_
              exact B88 x1 x2 (x4 + 1) x6 x7 v8 v8 he H locs hP hD hS ls (lv_sub hl [2, 3, 4, 0, 6, 7, 1] rfl)
  have hS0 := hS
  have key : ∀ (H : Heap) (locs : List Loc), H = ss.heap → locs = [] → va_P D vwCl (wSurvey k v h a P X) H → va_S (va_A (wSurvey k v h a P X) ss.heap.size) ss.heap H locs → W pp l ee ({ frames := 2, cells := 0, slots := 0, locals := 45 } : Room) ss mm ([.ref v, .int p1, .int p2] : List Value).toArray bl me co H locs 0 0 (MQ bl (cQi D k (wSurvey k v h a P X) ss.heap.size r (wSurvey k v h a P X)) ([.ref v, .int p1, .int p2] : List Value).toArray ss 0 0 (va_A (wSurvey k v h a P X) ss.heap.size)) (F0 mm 0 ls []) := by
    intro H locs _ _ hP hS
    refine lv_iload_n hx hb dX6_tellDead_0 rfl (lv_at hl 2 rfl) ?_
    refine lv_if_lt (tgt := 9) hx hb dX6_tellDead_1 (by decide) (fun c1001 => ?_) (fun c1001 => ?_)
    · have he := ifp he c1001
      refine lv_bipush (v := (-2)) hx hb dX6_tellDead_9 (by decide) ?_
      obtain rfl := some1 he
      exact cRi hx hb hr hlk hK rfl hP hD hS dX6_tellDead_11
    · have he := ifn he c1001
      refine lv_iload_n hx hb dX6_tellDead_4 rfl (lv_at hl 2 rfl) ?_
      refine lv_iconst (v := 2) hx hb dX6_tellDead_5 (by decide) ?_
      refine lv_icmp_le (tgt := 12) hx hb dX6_tellDead_6 (by decide) (fun c1002 => ?_) (fun c1002 => ?_)
      · have he := ifp he c1002
        refine lv_aload_n hx hb dX6_tellDead_12 rfl (lv_at hl 0 rfl) ?_
        refine va_get (D := D) (ci := 6) (v := .ref (a 0)) (C := RX6) (T := TX6) (N := 2) hx hb hts iX6 hown hK hP 0 rfl rfl 0 (by decide) w1 (fun _ h9 => h9) rfl dX6_tellDead_13 ?_
        refine lv_iload_n hx hb dX6_tellDead_16 rfl (lv_at hl 1 rfl) ?_
        obtain ⟨v1003, h1004, he⟩ := bn1_i he
        refine cVir (As := [.int p1]) (rest := []) ⟨hx, hb, hml, hown, hts⟩ hK hA hP hD hS (mX4_refusalAsHolder l D k a (P := P) h1004) (cwV 1 hts gX6_tellDead_X4_refusalAsHolder rfl rfl rfl kX4_refusalAsHolder ⟨Nat.le_of_ble_eq_true rfl, Nat.le_of_ble_eq_true rfl⟩) [3, 4, 5, 6, 7, 8, 9, 10, 11, 12] rfl rfl 0 rfl rfl rfl hl.1 rfl (Nat.le_of_ble_eq_true rfl) ⟨Nat.le_refl 0, Nat.le_refl 0⟩ dX6_tellDead_17 (fun H locs hP hD hS => ?_)
        refine lv_istore_n (lv' := [(3, .int v1003), (0, .ref v), (1, .int p1), (2, .int p2)]) hx hb dX6_tellDead_20 rfl hl (by decide) rfl (fun ls hl => ?_)
        refine lv_iload_n hx hb dX6_tellDead_21 rfl (lv_at hl 0 rfl) ?_
        refine lv_if_eq (tgt := 27) hx hb dX6_tellDead_22 (by decide) (fun c1005 => ?_) (fun c1005 => ?_)
        · have he := ifp he c1005
          refine lv_iconst (v := 0) hx hb dX6_tellDead_27 (by decide) ?_
          refine lv_istore (lv' := [(4, .int 0), (3, .int v1003), (0, .ref v), (1, .int p1), (2, .int p2)]) hx hb dX6_tellDead_28 hl (by decide) rfl (fun ls hl => ?_)
          refine lv_iconst (v := (-1)) hx hb dX6_tellDead_30 (by decide) ?_
          refine lv_istore (lv' := [(5, .int (-1)), (4, .int 0), (3, .int v1003), (0, .ref v), (1, .int p1), (2, .int p2)]) hx hb dX6_tellDead_31 hl (by decide) rfl (fun ls hl => ?_)
          refine lv_iconst (v := (-1)) hx hb dX6_tellDead_33 (by decide) ?_
          refine lv_istore (lv' := [(6, .int (-1)), (5, .int (-1)), (4, .int 0), (3, .int v1003), (0, .ref v), (1, .int p1), (2, .int p2)]) hx hb dX6_tellDead_34 hl (by decide) rfl (fun ls hl => ?_)
          refine lv_iconst (v := 0) hx hb dX6_tellDead_36 (by decide) ?_
          refine lv_istore (lv' := [(7, .int 0), (6, .int (-1)), (5, .int (-1)), (4, .int 0), (3, .int v1003), (0, .ref v), (1, .int p1), (2, .int p2)]) hx hb dX6_tellDead_37 hl (by decide) rfl (fun ls hl => ?_)
          exact B39 600 p1 p2 0 (-1) (-1) 0 he H locs hP hD hS ls (lv_sub hl [5, 6, 7, 3, 2, 1, 0] rfl)
        · have he := ifn he c1005
          refine lv_iload_n hx hb dX6_tellDead_25 rfl (lv_at hl 0 rfl) ?_
          obtain rfl := some1 he
          exact cRi hx hb hr hlk hK rfl hP hD hS dX6_tellDead_26
      · have he := ifn he c1002
        refine lv_bipush (v := (-2)) hx hb dX6_tellDead_9 (by decide) ?_
        obtain rfl := some1 he
        exact cRi hx hb hr hlk hK rfl hP hD hS dX6_tellDead_11
  exact key ss.heap [] rfl rfl hP hS
theorem kX6_sizeOfDeadList : yX6_sizeOfDeadList.cls = RX6 ∧ yX6_sizeOfDeadList.cls ≠ "java/lang/invoke/MethodHandle" ∧ yX6_sizeOfDeadList.cls ≠ "java/lang/invoke/VarHandle" ∧ (parseMethodDescriptor yX6_sizeOfDeadList.desc).map (fun d => d.parameters.length) = some 2 := by decide +kernel
set_option maxRecDepth 100000 in
set_option maxHeartbeats 4000000 in
theorem mX6_sizeOfDeadList (l : Launch) (D : va_G) (k : Nat → ClassId) (v : Nat) (h : Nat → Nat) (a : Nat → Nat) {P : Nat → Nat → Int32} {X : Nat → Int32} {p1 : Int32} {p2 : Int32} {r : Int64}  (he : xX6_sizeOfDeadList P p1 p2 = some r) : CtL l D k yX6_sizeOfDeadList wsX6_sizeOfDeadList ({ frames := 2, cells := 0, slots := 0, locals := 45 } : Room) [.ref v, .int p1, .int p2] (wSurvey k v h a P X) r (wSurvey k v h a P X) := by
  intro sz9
  refine cSt (lv := [(0, .ref v), (1, .int p1), (2, .int p2)]) (own := RX6) (cc := cX6_sizeOfDeadList) (nL := 10) (ret := (some .long)) (by decide +kernel) rfl rfl (Nat.le_of_ble_eq_true rfl) rfl ?_
  intro pp ee ss mm bl me co hsz hC0 hP hD hS ls hl
  subst hsz
  obtain ⟨hx, hb, hr, hml, hown, hts, hK, hlk⟩ := hC0
  have hA : ∀ q, ss.heap.size ≤ q → va_A (wSurvey k v h a P X) ss.heap.size q := fun q h => Or.inr h
  have iX6 : ∀ w ∈ wsX60, w ∈ wsX6_sizeOfDeadList := fun _ h => List.mem_cons_of_mem _ (List.mem_append_left _ (List.mem_append_right _ h))
  have w1 := hts (.fieldLink RX6 9 "DeadListPool$Survey" "pool" "LDeadListPool$Pool;") (List.mem_of_getElem? (i := 1) rfl)
  have w2 := hts (.constantLong RX6 104 (-4611686018427387904)) (List.mem_of_getElem? (i := 2) rfl)
  have B57 : ∀ (n57 : Nat) (x1 : Int32) (x3 : Int32) (x4 : Int32) (x5 : Int64) (x7 : Int32), xX6_sizeOfDeadList_57 P n57 x1 x3 x4 x5 x7 = some r → ∀ (H : Heap) (locs : List Loc), va_P D vwCl (wSurvey k v h a P X) H → va_D (va_A (wSurvey k v h a P X) ss.heap.size) (wSurvey k v h a P X) → va_S (va_A (wSurvey k v h a P X) ss.heap.size) ss.heap H locs → ∀ ls : Array Slot, lv_has ls 10 [(0, .ref v), (1, .int x1), (3, .int x3), (4, .int x4), (5, .long x5), (7, .int x7)] → W pp l ee ({ frames := 2, cells := 0, slots := 0, locals := 45 } : Room) ss mm ([.ref v, .int p1, .int p2] : List Value).toArray bl me co H locs 0 0 (MQ bl (cQl D k (wSurvey k v h a P X) ss.heap.size r (wSurvey k v h a P X)) ([.ref v, .int p1, .int p2] : List Value).toArray ss 0 0 (va_A (wSurvey k v h a P X) ss.heap.size)) (F0 mm 57 ls []) := by
    intro n57
    induction n57 with
    | zero =>
      intro x1 x3 x4 x5 x7 he
      exact absurd (show (none : Option (Int64)) = some r from he) (by simp)
    | succ n57 ih57 =>
      intro x1 x3 x4 x5 x7 he H locs hP hD hS ls hl
      refine lv_iload hx hb dX6_sizeOfDeadList_57 (lv_at hl 5 rfl) ?_
      refine lv_bipush (v := 12) hx hb dX6_sizeOfDeadList_59 (by decide) ?_
      refine lv_icmp_ge (tgt := 131) hx hb dX6_sizeOfDeadList_61 (by decide) (fun c1 => ?_) (fun c1 => ?_)
      · have he := ifp he c1
        refine lv_lload hx hb dX6_sizeOfDeadList_131 (lv_at hl 4 rfl) ?_
        obtain rfl := some1 he
        exact cRl hx hb hr hlk hK hP hD hS dX6_sizeOfDeadList_133
      · have he := ifn he c1
        refine lv_aload_n hx hb dX6_sizeOfDeadList_64 rfl (lv_at hl 0 rfl) ?_
        refine lv_iload_n hx hb dX6_sizeOfDeadList_65 rfl (lv_at hl 1 rfl) ?_
        refine lv_iload hx hb dX6_sizeOfDeadList_66 (lv_at hl 5 rfl) ?_
        obtain ⟨v2, h3, he⟩ := bn1_i he
        refine cVir (As := [.int x1, .int x7]) (rest := []) ⟨hx, hb, hml, hown, hts⟩ hK hA hP hD hS (mX6_deadIn l D k v h a (P := P) (X := X) h3) (cwV 2 hts gX6_sizeOfDeadList_X6_deadIn rfl rfl rfl kX6_deadIn ⟨Nat.le_of_ble_eq_true rfl, Nat.le_of_ble_eq_true rfl⟩) [0, 1, 2, 3, 4, 5, 6, 7, 8, 9, 10, 11, 12] rfl rfl 0 rfl rfl rfl hl.1 rfl (Nat.le_of_ble_eq_true rfl) ⟨Nat.le_refl 0, Nat.le_refl 0⟩ dX6_sizeOfDeadList_68 (fun H locs hP hD hS => ?_)
        refine lv_istore (lv' := [(8, .int v2), (0, .ref v), (1, .int x1), (3, .int x3), (4, .int x4), (5, .long x5), (7, .int x7)]) hx hb dX6_sizeOfDeadList_71 hl (by decide) rfl (fun ls hl => ?_)
        refine lv_aload_n hx hb dX6_sizeOfDeadList_73 rfl (lv_at hl 1 rfl) ?_
        refine va_get (D := D) (ci := 6) (v := .ref (a 0)) (C := RX6) (T := TX6) (N := 2) hx hb hts iX6 hown hK hP 0 rfl rfl 0 (by decide) w1 (fun _ h9 => h9) rfl dX6_sizeOfDeadList_74 ?_
        refine lv_iload hx hb dX6_sizeOfDeadList_77 (lv_at hl 0 rfl) ?_
        obtain ⟨v4, h5, he⟩ := bn1_i he
        refine cVir (As := [.int v2]) (rest := []) ⟨hx, hb, hml, hown, hts⟩ hK hA hP hD hS (mX4_birthOf l D k a (P := P) h5) (cwV 1 hts gX6_sizeOfDeadList_X4_birthOf rfl rfl rfl kX4_birthOf ⟨Nat.le_of_ble_eq_true rfl, Nat.le_of_ble_eq_true rfl⟩) [3, 4, 5, 6, 7, 8, 9, 10, 11, 12] rfl rfl 0 rfl rfl rfl hl.1 rfl (Nat.le_of_ble_eq_true rfl) ⟨Nat.le_refl 0, Nat.le_refl 0⟩ dX6_sizeOfDeadList_79 (fun H locs hP hD hS => ?_)
        refine lv_istore (lv' := [(9, .int v4), (8, .int v2), (0, .ref v), (1, .int x1), (3, .int x3), (4, .int x4), (5, .long x5), (7, .int x7)]) hx hb dX6_sizeOfDeadList_82 hl (by decide) rfl (fun ls hl => ?_)
        refine lv_iload hx hb dX6_sizeOfDeadList_84 (lv_at hl 1 rfl) ?_
        refine lv_iconst (v := (-1)) hx hb dX6_sizeOfDeadList_86 (by decide) ?_
        refine lv_icmp_eq (tgt := 125) hx hb dX6_sizeOfDeadList_87 (by decide) (fun c6 => ?_) (fun c6 => ?_)
        · have he := ifp he c6
          refine lv_iinc (v := (x7 + 1)) (lv' := [(7, .int (x7 + 1)), (9, .int v4), (8, .int v2), (0, .ref v), (1, .int x1), (3, .int x3), (4, .int x4), (5, .long x5)]) hx hb dX6_sizeOfDeadList_125 hl (k := 7) rfl rfl (by decide) rfl (fun ls hl => ?_)
          refine lv_goto (tgt := 57) hx hb dX6_sizeOfDeadList_128 (by decide) ?_
          exact ih57 x1 x3 x4 x5 (x7 + 1) he H locs hP hD hS ls (lv_sub hl [3, 4, 5, 6, 7, 0] rfl)
        · have he := ifn he c6
          refine lv_iload hx hb dX6_sizeOfDeadList_90 (lv_at hl 0 rfl) ?_
          refine lv_aload_n hx hb dX6_sizeOfDeadList_92 rfl (lv_at hl 2 rfl) ?_
          refine va_get (D := D) (ci := 6) (v := .ref (a 0)) (C := RX6) (T := TX6) (N := 2) hx hb hts iX6 hown hK hP 0 rfl rfl 0 (by decide) w1 (fun _ h9 => h9) rfl dX6_sizeOfDeadList_93 ?_
          refine lv_iload_n hx hb dX6_sizeOfDeadList_96 rfl (lv_at hl 4 rfl) ?_
          obtain ⟨v7, h8, he⟩ := bn1_i he
          refine cVir (As := [.int x3]) (rest := [.int v4]) ⟨hx, hb, hml, hown, hts⟩ hK hA hP hD hS (mX4_madeOf l D k a (P := P) h8) (cwV 1 hts gX6_sizeOfDeadList_X4_madeOf rfl rfl rfl kX4_madeOf ⟨Nat.le_of_ble_eq_true rfl, Nat.le_of_ble_eq_true rfl⟩) [3, 4, 5, 6, 7, 8, 9, 10, 11, 12] rfl rfl 0 rfl rfl rfl hl.1 rfl (Nat.le_of_ble_eq_true rfl) ⟨Nat.le_refl 0, Nat.le_refl 0⟩ dX6_sizeOfDeadList_97 (fun H locs hP hD hS => ?_)
          refine lv_icmp_gt (tgt := 125) hx hb dX6_sizeOfDeadList_100 (by decide) (fun c9 => ?_) (fun c9 => ?_)
          · have he := ifp he c9
            refine lv_iinc (v := (x7 + 1)) (lv' := [(7, .int (x7 + 1)), (9, .int v4), (8, .int v2), (0, .ref v), (1, .int x1), (3, .int x3), (4, .int x4), (5, .long x5)]) hx hb dX6_sizeOfDeadList_125 hl (k := 7) rfl rfl (by decide) rfl (fun ls hl => ?_)
            refine lv_goto (tgt := 57) hx hb dX6_sizeOfDeadList_128 (by decide) ?_
            exact ih57 x1 x3 x4 x5 (x7 + 1) he H locs hP hD hS ls (lv_sub hl [3, 4, 5, 6, 7, 0] rfl)
          · have he := ifn he c9
            refine lv_iload hx hb dX6_sizeOfDeadList_103 (lv_at hl 0 rfl) ?_
            refine lv_iload hx hb dX6_sizeOfDeadList_105 (lv_at hl 5 rfl) ?_
            refine lv_icmp_le (tgt := 125) hx hb dX6_sizeOfDeadList_107 (by decide) (fun c10 => ?_) (fun c10 => ?_)
            · have he := ifp he c10
              refine lv_iinc (v := (x7 + 1)) (lv' := [(7, .int (x7 + 1)), (9, .int v4), (8, .int v2), (0, .ref v), (1, .int x1), (3, .int x3), (4, .int x4), (5, .long x5)]) hx hb dX6_sizeOfDeadList_125 hl (k := 7) rfl rfl (by decide) rfl (fun ls hl => ?_)
              refine lv_goto (tgt := 57) hx hb dX6_sizeOfDeadList_128 (by decide) ?_
              exact ih57 x1 x3 x4 x5 (x7 + 1) he H locs hP hD hS ls (lv_sub hl [3, 4, 5, 6, 7, 0] rfl)
            · have he := ifn he c10
              refine lv_lload hx hb dX6_sizeOfDeadList_110 (lv_at hl 6 rfl) ?_
              refine lv_aload_n hx hb dX6_sizeOfDeadList_112 rfl (lv_at hl 2 rfl) ?_
              refine va_get (D := D) (ci := 6) (v := .ref (a 0)) (C := RX6) (T := TX6) (N := 2) hx hb hts iX6 hown hK hP 0 rfl rfl 0 (by decide) w1 (fun _ h9 => h9) rfl dX6_sizeOfDeadList_113 ?_
              refine lv_iload hx hb dX6_sizeOfDeadList_116 (lv_at hl 1 rfl) ?_
              obtain ⟨v11, h12, he⟩ := bn1_i he
              refine cVir (As := [.int v2]) (rest := [.long x5]) ⟨hx, hb, hml, hown, hts⟩ hK hA hP hD hS (mX4_sizeOf l D k a (P := P) h12) (cwV 1 hts gX6_sizeOfDeadList_X4_sizeOf rfl rfl rfl kX4_sizeOf ⟨Nat.le_of_ble_eq_true rfl, Nat.le_of_ble_eq_true rfl⟩) [3, 4, 5, 6, 7, 8, 9, 10, 11, 12] rfl rfl 0 rfl rfl rfl hl.1 rfl (Nat.le_of_ble_eq_true rfl) ⟨Nat.le_refl 0, Nat.le_refl 0⟩ dX6_sizeOfDeadList_118 (fun H locs hP hD hS => ?_)
              refine lv_i2l (v := (Int32.toInt64 v11)) hx hb dX6_sizeOfDeadList_121 rfl ?_
              refine lv_ladd hx hb dX6_sizeOfDeadList_122 ?_
              refine lv_lstore (lv' := [(5, .long (x5 + (Int32.toInt64 v11))), (9, .int v4), (8, .int v2), (0, .ref v), (1, .int x1), (3, .int x3), (4, .int x4), (7, .int x7)]) hx hb dX6_sizeOfDeadList_123 hl (by decide) rfl (fun ls hl => ?_)
              refine lv_iinc (v := (x7 + 1)) (lv' := [(7, .int (x7 + 1)), (5, .long (x5 + (Int32.toInt64 v11))), (9, .int v4), (8, .int v2), (0, .ref v), (1, .int x1), (3, .int x3), (4, .int x4)]) hx hb dX6_sizeOfDeadList_125 hl (k := 7) rfl rfl (by decide) rfl (fun ls hl => ?_)
              refine lv_goto (tgt := 57) hx hb dX6_sizeOfDeadList_128 (by decide) ?_
              exact ih57 x1 x3 x4 (x5 + (Int32.toInt64 v11)) (x7 + 1) he H locs hP hD hS ls (lv_sub hl [4, 5, 6, 7, 1, 0] rfl)
  have B24 : ∀ (x1 : Int32) (y0 : Int32), xX6_sizeOfDeadList_24 P x1 y0 = some r → ∀ (H : Heap) (locs : List Loc), va_P D vwCl (wSurvey k v h a P X) H → va_D (va_A (wSurvey k v h a P X) ss.heap.size) (wSurvey k v h a P X) → va_S (va_A (wSurvey k v h a P X) ss.heap.size) ss.heap H locs → ∀ ls : Array Slot, lv_has ls 10 [(0, .ref v), (1, .int x1)] → W pp l ee ({ frames := 2, cells := 0, slots := 0, locals := 45 } : Room) ss mm ([.ref v, .int p1, .int p2] : List Value).toArray bl me co H locs 0 0 (MQ bl (cQl D k (wSurvey k v h a P X) ss.heap.size r (wSurvey k v h a P X)) ([.ref v, .int p1, .int p2] : List Value).toArray ss 0 0 (va_A (wSurvey k v h a P X) ss.heap.size)) (F0 mm 24 ls [.int y0]) := by
    intro x1 y0 he H locs hP hD hS ls hl
    refine lv_istore_n (lv' := [(3, .int y0), (0, .ref v), (1, .int x1)]) hx hb dX6_sizeOfDeadList_24 rfl hl (by decide) rfl (fun ls hl => ?_)
    refine lv_iload_n hx hb dX6_sizeOfDeadList_25 rfl (lv_at hl 0 rfl) ?_
    refine lv_iconst (v := (-1)) hx hb dX6_sizeOfDeadList_26 (by decide) ?_
    refine lv_icmp_ne (tgt := 34) hx hb dX6_sizeOfDeadList_27 (by decide) (fun c13 => ?_) (fun c13 => ?_)
    · have he := ifn he c13
      refine lv_aload_n hx hb dX6_sizeOfDeadList_34 rfl (lv_at hl 1 rfl) ?_
      refine va_get (D := D) (ci := 6) (v := .ref (a 0)) (C := RX6) (T := TX6) (N := 2) hx hb hts iX6 hown hK hP 0 rfl rfl 0 (by decide) w1 (fun _ h9 => h9) rfl dX6_sizeOfDeadList_35 ?_
      refine lv_aload_n hx hb dX6_sizeOfDeadList_38 rfl (lv_at hl 1 rfl) ?_
      refine va_get (D := D) (ci := 6) (v := .ref (a 0)) (C := RX6) (T := TX6) (N := 2) hx hb hts iX6 hown hK hP 0 rfl rfl 0 (by decide) w1 (fun _ h9 => h9) rfl dX6_sizeOfDeadList_39 ?_
      refine lv_iload_n hx hb dX6_sizeOfDeadList_42 rfl (lv_at hl 0 rfl) ?_
      obtain ⟨v14, h15, he⟩ := bn1_i he
      refine cVir (As := [.int y0]) (rest := [.ref (a 0)]) ⟨hx, hb, hml, hown, hts⟩ hK hA hP hD hS (mX4_prevOf l D k a (P := P) h15) (cwV 1 hts gX6_sizeOfDeadList_X4_prevOf rfl rfl rfl kX4_prevOf ⟨Nat.le_of_ble_eq_true rfl, Nat.le_of_ble_eq_true rfl⟩) [3, 4, 5, 6, 7, 8, 9, 10, 11, 12] rfl rfl 0 rfl rfl rfl hl.1 rfl (Nat.le_of_ble_eq_true rfl) ⟨Nat.le_refl 0, Nat.le_refl 0⟩ dX6_sizeOfDeadList_43 (fun H locs hP hD hS => ?_)
      obtain ⟨v16, h17, he⟩ := bn1_i he
      refine cVir (As := [.int v14]) (rest := []) ⟨hx, hb, hml, hown, hts⟩ hK hA hP hD hS (mX4_madeOf l D k a (P := P) h17) (cwV 1 hts gX6_sizeOfDeadList_X4_madeOf rfl rfl rfl kX4_madeOf ⟨Nat.le_of_ble_eq_true rfl, Nat.le_of_ble_eq_true rfl⟩) [3, 4, 5, 6, 7, 8, 9, 10, 11, 12] rfl rfl 0 rfl rfl rfl hl.1 rfl (Nat.le_of_ble_eq_true rfl) ⟨Nat.le_refl 0, Nat.le_refl 0⟩ dX6_sizeOfDeadList_46 (fun H locs hP hD hS => ?_)
      refine lv_istore (lv' := [(4, .int v16), (3, .int y0), (0, .ref v), (1, .int x1)]) hx hb dX6_sizeOfDeadList_49 hl (by decide) rfl (fun ls hl => ?_)
      refine lv_lconst (v := 0) hx hb dX6_sizeOfDeadList_51 (by decide) ?_
      refine lv_lstore (lv' := [(5, .long 0), (4, .int v16), (3, .int y0), (0, .ref v), (1, .int x1)]) hx hb dX6_sizeOfDeadList_52 hl (by decide) rfl (fun ls hl => ?_)
      refine lv_iconst (v := 0) hx hb dX6_sizeOfDeadList_54 (by decide) ?_
      refine lv_istore (lv' := [(7, .int 0), (5, .long 0), (4, .int v16), (3, .int y0), (0, .ref v), (1, .int x1)]) hx hb dX6_sizeOfDeadList_55 hl (by decide) rfl (fun ls hl => ?_)
      exact B57 600 x1 y0 v16 0 0 he H locs hP hD hS ls (lv_sub hl [4, 5, 3, 2, 1, 0] rfl)
    · have he := ifp he c13
      refine lv_ldc2 hx hb hown w2 dX6_sizeOfDeadList_30 ?_
      obtain rfl := some1 he
      exact cRl hx hb hr hlk hK hP hD hS dX6_sizeOfDeadList_33
  have hS0 := hS
  have key : ∀ (H : Heap) (locs : List Loc), H = ss.heap → locs = [] → va_P D vwCl (wSurvey k v h a P X) H → va_S (va_A (wSurvey k v h a P X) ss.heap.size) ss.heap H locs → W pp l ee ({ frames := 2, cells := 0, slots := 0, locals := 45 } : Room) ss mm ([.ref v, .int p1, .int p2] : List Value).toArray bl me co H locs 0 0 (MQ bl (cQl D k (wSurvey k v h a P X) ss.heap.size r (wSurvey k v h a P X)) ([.ref v, .int p1, .int p2] : List Value).toArray ss 0 0 (va_A (wSurvey k v h a P X) ss.heap.size)) (F0 mm 0 ls []) := by
    intro H locs _ _ hP hS
    refine lv_aload_n hx hb dX6_sizeOfDeadList_0 rfl (lv_at hl 0 rfl) ?_
    refine va_get (D := D) (ci := 6) (v := .ref (a 0)) (C := RX6) (T := TX6) (N := 2) hx hb hts iX6 hown hK hP 0 rfl rfl 0 (by decide) w1 (fun _ h9 => h9) rfl dX6_sizeOfDeadList_1 ?_
    refine lv_iload_n hx hb dX6_sizeOfDeadList_4 rfl (lv_at hl 1 rfl) ?_
    obtain ⟨v1001, h1002, he⟩ := bn1_i he
    refine cVir (As := [.int p1]) (rest := []) ⟨hx, hb, hml, hown, hts⟩ hK hA hP hD hS (mX4_isHolder l D k a (P := P) h1002) (cwV 1 hts gX6_sizeOfDeadList_X4_isHolder rfl rfl rfl kX4_isHolder ⟨Nat.le_of_ble_eq_true rfl, Nat.le_of_ble_eq_true rfl⟩) [3, 4, 5, 6, 7, 8, 9, 10, 11, 12] rfl rfl 0 rfl rfl rfl hl.1 rfl (Nat.le_of_ble_eq_true rfl) ⟨Nat.le_refl 0, Nat.le_refl 0⟩ dX6_sizeOfDeadList_5 (fun H locs hP hD hS => ?_)
    refine lv_if_eq (tgt := 23) hx hb dX6_sizeOfDeadList_8 (by decide) (fun c1003 => ?_) (fun c1003 => ?_)
    · have he := ifp he c1003
      refine lv_iconst (v := (-1)) hx hb dX6_sizeOfDeadList_23 (by decide) ?_
      exact B24 p1 (-1) he H locs hP hD hS ls (lv_sub hl [0, 1] rfl)
    · have he := ifn he c1003
      refine lv_aload_n hx hb dX6_sizeOfDeadList_11 rfl (lv_at hl 0 rfl) ?_
      refine va_get (D := D) (ci := 6) (v := .ref (a 0)) (C := RX6) (T := TX6) (N := 2) hx hb hts iX6 hown hK hP 0 rfl rfl 0 (by decide) w1 (fun _ h9 => h9) rfl dX6_sizeOfDeadList_12 ?_
      refine lv_iload_n hx hb dX6_sizeOfDeadList_15 rfl (lv_at hl 1 rfl) ?_
      refine lv_iload_n hx hb dX6_sizeOfDeadList_16 rfl (lv_at hl 2 rfl) ?_
      obtain ⟨v1004, h1005, he⟩ := bn1_i he
      refine cVir (As := [.int p1, .int p2]) (rest := []) ⟨hx, hb, hml, hown, hts⟩ hK hA hP hD hS (mX4_inChain l D k a (P := P) h1005) (cwV 2 hts gX6_sizeOfDeadList_X4_inChain rfl rfl rfl kX4_inChain ⟨Nat.le_of_ble_eq_true rfl, Nat.le_of_ble_eq_true rfl⟩) [3, 4, 5, 6, 7, 8, 9, 10, 11, 12] rfl rfl 0 rfl rfl rfl hl.1 rfl (Nat.le_of_ble_eq_true rfl) ⟨Nat.le_refl 0, Nat.le_refl 0⟩ dX6_sizeOfDeadList_17 (fun H locs hP hD hS => ?_)
      refine lv_goto (tgt := 24) hx hb dX6_sizeOfDeadList_20 (by decide) ?_
      exact B24 p1 v1004 he H locs hP hD hS ls (lv_sub hl [0, 1] rfl)
  exact key ss.heap [] rfl rfl hP hS
theorem kX6_sizeHeldOnlyBy : yX6_sizeHeldOnlyBy.cls = RX6 ∧ yX6_sizeHeldOnlyBy.cls ≠ "java/lang/invoke/MethodHandle" ∧ yX6_sizeHeldOnlyBy.cls ≠ "java/lang/invoke/VarHandle" ∧ (parseMethodDescriptor yX6_sizeHeldOnlyBy.desc).map (fun d => d.parameters.length) = some 1 := by decide +kernel
set_option maxRecDepth 100000 in
set_option maxHeartbeats 4000000 in
theorem mX6_sizeHeldOnlyBy (l : Launch) (D : va_G) (k : Nat → ClassId) (v : Nat) (h : Nat → Nat) (a : Nat → Nat) {P : Nat → Nat → Int32} {X_0 : Nat → Int32} {p1 : Int32} {r : Int64} {X' : Nat → Int32} (he : xX6_sizeHeldOnlyBy P X_0 p1 = some (r, X')) : CtL l D k yX6_sizeHeldOnlyBy wsX6_sizeHeldOnlyBy ({ frames := 2, cells := 0, slots := 0, locals := 45 } : Room) [.ref v, .int p1] (wSurvey k v h a P X_0) r (wSurvey k v h a P X') := by
  intro sz9
  refine cSt (lv := [(0, .ref v), (1, .int p1)]) (own := RX6) (cc := cX6_sizeHeldOnlyBy) (nL := 5) (ret := (some .long)) (by decide +kernel) rfl rfl (Nat.le_of_ble_eq_true rfl) rfl ?_
  intro pp ee ss mm bl me co hsz hC0 hP hD hS ls hl
  subst hsz
  obtain ⟨hx, hb, hr, hml, hown, hts, hK, hlk⟩ := hC0
  have hA : ∀ q, ss.heap.size ≤ q → va_A (wSurvey k v h a P X_0) ss.heap.size q := fun q h => Or.inr h
  have iX6 : ∀ w ∈ wsX60, w ∈ wsX6_sizeHeldOnlyBy := fun _ h => List.mem_cons_of_mem _ (List.mem_append_left _ (List.mem_append_left _ (List.mem_append_right _ h)))
  have w1 := hts (.fieldLink RX6 20 "DeadListPool$Survey" "holders" "LDeadListPool$Holders;") (List.mem_of_getElem? (i := 1) rfl)
  have w2 := hts (.fieldLink RX6 9 "DeadListPool$Survey" "pool" "LDeadListPool$Pool;") (List.mem_of_getElem? (i := 2) rfl)
  have B12 : ∀ (n12 : Nat) (x1 : Int32) (x2 : Int64) (x4 : Int32) (X : Nat → Int32), xX6_sizeHeldOnlyBy_12 P n12 x1 x2 x4 X = some (r, X') → ∀ (H : Heap) (locs : List Loc), va_P D vwCl (wSurvey k v h a P X) H → va_D (va_A (wSurvey k v h a P X_0) ss.heap.size) (wSurvey k v h a P X) → va_S (va_A (wSurvey k v h a P X_0) ss.heap.size) ss.heap H locs → ∀ ls : Array Slot, lv_has ls 5 [(0, .ref v), (1, .int x1), (2, .long x2), (4, .int x4)] → W pp l ee ({ frames := 2, cells := 0, slots := 0, locals := 45 } : Room) ss mm ([.ref v, .int p1] : List Value).toArray bl me co H locs 0 0 (MQ bl (cQl D k (wSurvey k v h a P X_0) ss.heap.size r (wSurvey k v h a P X')) ([.ref v, .int p1] : List Value).toArray ss 0 0 (va_A (wSurvey k v h a P X_0) ss.heap.size)) (F0 mm 12 ls []) := by
    intro n12
    induction n12 with
    | zero =>
      intro x1 x2 x4 X he
      exact absurd (show (none : Option (Int64 × (Nat → Int32))) = some (r, X') from he) (by simp)
    | succ n12 ih12 =>
      intro x1 x2 x4 X he H locs hP hD hS ls hl
      refine lv_iload hx hb dX6_sizeHeldOnlyBy_12 (lv_at hl 3 rfl) ?_
      refine lv_bipush (v := 96) hx hb dX6_sizeHeldOnlyBy_14 (by decide) ?_
      refine lv_icmp_ge (tgt := 54) hx hb dX6_sizeHeldOnlyBy_16 (by decide) (fun c1 => ?_) (fun c1 => ?_)
      · have he := ifp he c1
        refine lv_lload_n hx hb dX6_sizeHeldOnlyBy_54 rfl (lv_at hl 2 rfl) ?_
        obtain ⟨rfl, rfl⟩ := some2 he
        exact cRl hx hb hr hlk hK hP hD hS dX6_sizeHeldOnlyBy_55
      · have he := ifn he c1
        refine lv_aload_n hx hb dX6_sizeHeldOnlyBy_19 rfl (lv_at hl 0 rfl) ?_
        refine va_get (D := D) (ci := 6) (v := .ref (h 0)) (C := RX6) (T := TX6) (N := 2) hx hb hts iX6 hown hK hP 0 rfl rfl 1 (by decide) w1 (fun _ h9 => h9) rfl dX6_sizeHeldOnlyBy_20 ?_
        refine lv_iload hx hb dX6_sizeHeldOnlyBy_23 (lv_at hl 3 rfl) ?_
        obtain ⟨v2, h3, he⟩ := bn1_i he
        refine cVir (As := [.int x4]) (rest := []) ⟨hx, hb, hml, hown, hts⟩ hK hA hP hD hS (mX2_setOf l D k h a (P := P) (X := X) h3) (cwV 1 hts gX6_sizeHeldOnlyBy_X2_setOf rfl rfl rfl kX2_setOf ⟨Nat.le_of_ble_eq_true rfl, Nat.le_of_ble_eq_true rfl⟩) [1, 2, 3, 4, 5, 6, 7, 8, 9, 10, 11, 12] rfl rfl 0 rfl rfl rfl hl.1 rfl (Nat.le_of_ble_eq_true rfl) ⟨Nat.le_refl 0, Nat.le_refl 0⟩ dX6_sizeHeldOnlyBy_25 (fun H locs hP hD hS => ?_)
        refine lv_iload_n hx hb dX6_sizeHeldOnlyBy_28 rfl (lv_at hl 1 rfl) ?_
        refine lv_iconst (v := (-1)) hx hb dX6_sizeHeldOnlyBy_29 (by decide) ?_
        refine lv_ixor hx hb dX6_sizeHeldOnlyBy_30 ?_
        refine lv_iand hx hb dX6_sizeHeldOnlyBy_31 ?_
        refine lv_if_ne (tgt := 48) hx hb dX6_sizeHeldOnlyBy_32 (by decide) (fun c4 => ?_) (fun c4 => ?_)
        · have he := ifn he c4
          refine lv_iinc (v := (x4 + 1)) (lv' := [(4, .int (x4 + 1)), (0, .ref v), (1, .int x1), (2, .long x2)]) hx hb dX6_sizeHeldOnlyBy_48 hl (k := 3) rfl rfl (by decide) rfl (fun ls hl => ?_)
          refine lv_goto (tgt := 12) hx hb dX6_sizeHeldOnlyBy_51 (by decide) ?_
          exact ih12 x1 x2 (x4 + 1) X he H locs hP hD hS ls (lv_sub hl [1, 2, 3, 0] rfl)
        · have he := ifp he c4
          refine lv_lload_n hx hb dX6_sizeHeldOnlyBy_35 rfl (lv_at hl 2 rfl) ?_
          refine lv_aload_n hx hb dX6_sizeHeldOnlyBy_36 rfl (lv_at hl 0 rfl) ?_
          refine va_get (D := D) (ci := 6) (v := .ref (a 0)) (C := RX6) (T := TX6) (N := 2) hx hb hts iX6 hown hK hP 0 rfl rfl 0 (by decide) w2 (fun _ h9 => h9) rfl dX6_sizeHeldOnlyBy_37 ?_
          refine lv_iload hx hb dX6_sizeHeldOnlyBy_40 (lv_at hl 3 rfl) ?_
          obtain ⟨v5, h6, he⟩ := bn1_i he
          refine cVir (As := [.int x4]) (rest := [.long x2]) ⟨hx, hb, hml, hown, hts⟩ hK hA hP hD hS (mX4_sizeOf l D k a (P := P) h6) (cwV 1 hts gX6_sizeHeldOnlyBy_X4_sizeOf rfl rfl rfl kX4_sizeOf ⟨Nat.le_of_ble_eq_true rfl, Nat.le_of_ble_eq_true rfl⟩) [3, 4, 5, 6, 7, 8, 9, 10, 11, 12] rfl rfl 0 rfl rfl rfl hl.1 rfl (Nat.le_of_ble_eq_true rfl) ⟨Nat.le_refl 0, Nat.le_refl 0⟩ dX6_sizeHeldOnlyBy_42 (fun H locs hP hD hS => ?_)
          refine lv_i2l (v := (Int32.toInt64 v5)) hx hb dX6_sizeHeldOnlyBy_45 rfl ?_
          refine lv_ladd hx hb dX6_sizeHeldOnlyBy_46 ?_
          refine lv_lstore_n (lv' := [(2, .long (x2 + (Int32.toInt64 v5))), (0, .ref v), (1, .int x1), (4, .int x4)]) hx hb dX6_sizeHeldOnlyBy_47 rfl hl (by decide) rfl (fun ls hl => ?_)
          refine lv_iinc (v := (x4 + 1)) (lv' := [(4, .int (x4 + 1)), (2, .long (x2 + (Int32.toInt64 v5))), (0, .ref v), (1, .int x1)]) hx hb dX6_sizeHeldOnlyBy_48 hl (k := 3) rfl rfl (by decide) rfl (fun ls hl => ?_)
          refine lv_goto (tgt := 12) hx hb dX6_sizeHeldOnlyBy_51 (by decide) ?_
          exact ih12 x1 (x2 + (Int32.toInt64 v5)) (x4 + 1) X he H locs hP hD hS ls (lv_sub hl [2, 3, 1, 0] rfl)
  have hS0 := hS
  have key : ∀ (H : Heap) (locs : List Loc), H = ss.heap → locs = [] → va_P D vwCl (wSurvey k v h a P X_0) H → va_S (va_A (wSurvey k v h a P X_0) ss.heap.size) ss.heap H locs → W pp l ee ({ frames := 2, cells := 0, slots := 0, locals := 45 } : Room) ss mm ([.ref v, .int p1] : List Value).toArray bl me co H locs 0 0 (MQ bl (cQl D k (wSurvey k v h a P X_0) ss.heap.size r (wSurvey k v h a P X')) ([.ref v, .int p1] : List Value).toArray ss 0 0 (va_A (wSurvey k v h a P X_0) ss.heap.size)) (F0 mm 0 ls []) := by
    intro H locs _ _ hP hS
    refine lv_aload_n hx hb dX6_sizeHeldOnlyBy_0 rfl (lv_at hl 0 rfl) ?_
    refine va_get (D := D) (ci := 6) (v := .ref (h 0)) (C := RX6) (T := TX6) (N := 2) hx hb hts iX6 hown hK hP 0 rfl rfl 1 (by decide) w1 (fun _ h9 => h9) rfl dX6_sizeHeldOnlyBy_1 ?_
    obtain ⟨X1001, h1002, he⟩ := bn1_i he
    refine cVv (wf := (wSurvey k v h a P X1001)) (As := []) (rest := []) ⟨hx, hb, hml, hown, hts⟩ hK hA hP hD hS (mX2_look l D k h a (P := P) (X_0 := X_0) h1002) (cwV 0 hts gX6_sizeHeldOnlyBy_X2_look rfl rfl rfl kX2_look ⟨Nat.le_of_ble_eq_true rfl, Nat.le_of_ble_eq_true rfl⟩) [1, 2, 3, 4, 5, 6, 7, 8, 9, 10, 11, 12] rfl rfl rfl [true, false, false, false, false, false, false, false, false, false, false, false, false] ⟨rfl, trivial⟩ 13 rfl (by decide +kernel) rfl 0 rfl rfl rfl hl.1 rfl (Nat.le_of_ble_eq_true rfl) ⟨Nat.le_refl 0, Nat.le_refl 0⟩ dX6_sizeHeldOnlyBy_4 (fun H locs hP hD hS => ?_)
    refine lv_lconst (v := 0) hx hb dX6_sizeHeldOnlyBy_7 (by decide) ?_
    refine lv_lstore_n (lv' := [(2, .long 0), (0, .ref v), (1, .int p1)]) hx hb dX6_sizeHeldOnlyBy_8 rfl hl (by decide) rfl (fun ls hl => ?_)
    refine lv_iconst (v := 0) hx hb dX6_sizeHeldOnlyBy_9 (by decide) ?_
    refine lv_istore (lv' := [(4, .int 0), (2, .long 0), (0, .ref v), (1, .int p1)]) hx hb dX6_sizeHeldOnlyBy_10 hl (by decide) rfl (fun ls hl => ?_)
    exact B12 600 p1 0 0 X1001 he H locs hP hD hS ls (lv_sub hl [2, 3, 1, 0] rfl)
  exact key ss.heap [] rfl rfl hP hS
theorem kX6_sizeOfRange : yX6_sizeOfRange.cls = RX6 ∧ yX6_sizeOfRange.cls ≠ "java/lang/invoke/MethodHandle" ∧ yX6_sizeOfRange.cls ≠ "java/lang/invoke/VarHandle" ∧ (parseMethodDescriptor yX6_sizeOfRange.desc).map (fun d => d.parameters.length) = some 2 := by decide +kernel
set_option maxRecDepth 100000 in
set_option maxHeartbeats 4000000 in
theorem mX6_sizeOfRange (l : Launch) (D : va_G) (k : Nat → ClassId) (v : Nat) (h : Nat → Nat) (a : Nat → Nat) {P : Nat → Nat → Int32} {X_0 : Nat → Int32} {p1 : Int32} {p2 : Int32} {r : Int64} {X' : Nat → Int32} (he : xX6_sizeOfRange P X_0 p1 p2 = some (r, X')) : CtL l D k yX6_sizeOfRange wsX6_sizeOfRange ({ frames := 3, cells := 0, slots := 0, locals := 69 } : Room) [.ref v, .int p1, .int p2] (wSurvey k v h a P X_0) r (wSurvey k v h a P X') := by
  intro sz9
  refine cSt (lv := [(0, .ref v), (1, .int p1), (2, .int p2)]) (own := RX6) (cc := cX6_sizeOfRange) (nL := 6) (ret := (some .long)) (by decide +kernel) rfl rfl (Nat.le_of_ble_eq_true rfl) rfl ?_
  intro pp ee ss mm bl me co hsz hC0 hP hD hS ls hl
  subst hsz
  obtain ⟨hx, hb, hr, hml, hown, hts, hK, hlk⟩ := hC0
  have hA : ∀ q, ss.heap.size ≤ q → va_A (wSurvey k v h a P X_0) ss.heap.size q := fun q h => Or.inr h
  have w2 := hts (.constantLong RX6 104 (-4611686018427387904)) (List.mem_of_getElem? (i := 2) rfl)
  have iX6 : ∀ w ∈ wsX60, w ∈ wsX6_sizeOfRange := fun _ h => List.mem_cons_of_mem _ (List.mem_append_left _ (List.mem_append_left _ (List.mem_append_right _ h)))
  have w1 := hts (.fieldLink RX6 9 "DeadListPool$Survey" "pool" "LDeadListPool$Pool;") (List.mem_of_getElem? (i := 1) rfl)
  have B34 : ∀ (n34 : Nat) (x1 : Int32) (x3 : Int32) (x4 : Int32) (x5 : Int32) (X : Nat → Int32), xX6_sizeOfRange_34 P n34 x1 x3 x4 x5 X = some (r, X') → ∀ (H : Heap) (locs : List Loc), va_P D vwCl (wSurvey k v h a P X) H → va_D (va_A (wSurvey k v h a P X_0) ss.heap.size) (wSurvey k v h a P X) → va_S (va_A (wSurvey k v h a P X_0) ss.heap.size) ss.heap H locs → ∀ ls : Array Slot, lv_has ls 6 [(0, .ref v), (1, .int x1), (3, .int x3), (4, .int x4), (5, .int x5)] → W pp l ee ({ frames := 3, cells := 0, slots := 0, locals := 69 } : Room) ss mm ([.ref v, .int p1, .int p2] : List Value).toArray bl me co H locs 0 0 (MQ bl (cQl D k (wSurvey k v h a P X_0) ss.heap.size r (wSurvey k v h a P X')) ([.ref v, .int p1, .int p2] : List Value).toArray ss 0 0 (va_A (wSurvey k v h a P X_0) ss.heap.size)) (F0 mm 34 ls []) := by
    intro n34
    induction n34 with
    | zero =>
      intro x1 x3 x4 x5 X he
      exact absurd (show (none : Option (Int64 × (Nat → Int32))) = some (r, X') from he) (by simp)
    | succ n34 ih34 =>
      intro x1 x3 x4 x5 X he H locs hP hD hS ls hl
      refine lv_iload hx hb dX6_sizeOfRange_34 (lv_at hl 4 rfl) ?_
      refine lv_bipush (v := 20) hx hb dX6_sizeOfRange_36 (by decide) ?_
      refine lv_icmp_ge (tgt := 83) hx hb dX6_sizeOfRange_38 (by decide) (fun c1 => ?_) (fun c1 => ?_)
      · have he := ifp he c1
        refine lv_ldc2 hx hb hown w2 dX6_sizeOfRange_83 ?_
        obtain ⟨rfl, rfl⟩ := some2 he
        exact cRl hx hb hr hlk hK hP hD hS dX6_sizeOfRange_86
      · have he := ifn he c1
        refine lv_iload hx hb dX6_sizeOfRange_41 (lv_at hl 3 rfl) ?_
        refine lv_iconst (v := (-1)) hx hb dX6_sizeOfRange_43 (by decide) ?_
        refine lv_icmp_eq (tgt := 83) hx hb dX6_sizeOfRange_44 (by decide) (fun c2 => ?_) (fun c2 => ?_)
        · have he := ifp he c2
          refine lv_ldc2 hx hb hown w2 dX6_sizeOfRange_83 ?_
          obtain ⟨rfl, rfl⟩ := some2 he
          exact cRl hx hb hr hlk hK hP hD hS dX6_sizeOfRange_86
        · have he := ifn he c2
          refine lv_iload_n hx hb dX6_sizeOfRange_47 rfl (lv_at hl 2 rfl) ?_
          refine lv_iconst (v := 1) hx hb dX6_sizeOfRange_48 (by decide) ?_
          refine lv_iload hx hb dX6_sizeOfRange_49 (lv_at hl 3 rfl) ?_
          refine lv_ishl hx hb dX6_sizeOfRange_51 ?_
          refine lv_ior hx hb dX6_sizeOfRange_52 ?_
          refine lv_istore_n (lv' := [(3, .int (x3 ||| (1 <<< (x4 &&& 31)))), (0, .ref v), (1, .int x1), (4, .int x4), (5, .int x5)]) hx hb dX6_sizeOfRange_53 rfl hl (by decide) rfl (fun ls hl => ?_)
          refine lv_iload hx hb dX6_sizeOfRange_54 (lv_at hl 3 rfl) ?_
          refine lv_iload_n hx hb dX6_sizeOfRange_56 rfl (lv_at hl 2 rfl) ?_
          refine lv_icmp_ne (tgt := 66) hx hb dX6_sizeOfRange_57 (by decide) (fun c3 => ?_) (fun c3 => ?_)
          · have he := ifn he c3
            refine lv_aload_n hx hb dX6_sizeOfRange_66 rfl (lv_at hl 1 rfl) ?_
            refine va_get (D := D) (ci := 6) (v := .ref (a 0)) (C := RX6) (T := TX6) (N := 2) hx hb hts iX6 hown hK hP 0 rfl rfl 0 (by decide) w1 (fun _ h9 => h9) rfl dX6_sizeOfRange_67 ?_
            refine lv_iload hx hb dX6_sizeOfRange_70 (lv_at hl 3 rfl) ?_
            obtain ⟨v4, h5, he⟩ := bn1_i he
            refine cVir (As := [.int x4]) (rest := []) ⟨hx, hb, hml, hown, hts⟩ hK hA hP hD hS (mX4_prevOf l D k a (P := P) h5) (cwV 1 hts gX6_sizeOfRange_X4_prevOf rfl rfl rfl kX4_prevOf ⟨Nat.le_of_ble_eq_true rfl, Nat.le_of_ble_eq_true rfl⟩) [3, 4, 5, 6, 7, 8, 9, 10, 11, 12] rfl rfl 0 rfl rfl rfl hl.1 rfl (Nat.le_of_ble_eq_true rfl) ⟨Nat.le_refl 0, Nat.le_refl 0⟩ dX6_sizeOfRange_72 (fun H locs hP hD hS => ?_)
            refine lv_istore (lv' := [(4, .int v4), (3, .int (x3 ||| (1 <<< (x4 &&& 31)))), (0, .ref v), (1, .int x1), (5, .int x5)]) hx hb dX6_sizeOfRange_75 hl (by decide) rfl (fun ls hl => ?_)
            refine lv_iinc (v := (x5 + 1)) (lv' := [(5, .int (x5 + 1)), (4, .int v4), (3, .int (x3 ||| (1 <<< (x4 &&& 31)))), (0, .ref v), (1, .int x1)]) hx hb dX6_sizeOfRange_77 hl (k := 4) rfl rfl (by decide) rfl (fun ls hl => ?_)
            refine lv_goto (tgt := 34) hx hb dX6_sizeOfRange_80 (by decide) ?_
            exact ih34 x1 (x3 ||| (1 <<< (x4 &&& 31))) v4 (x5 + 1) X he H locs hP hD hS ls (lv_sub hl [3, 4, 2, 1, 0] rfl)
          · have he := ifp he c3
            refine lv_aload_n hx hb dX6_sizeOfRange_60 rfl (lv_at hl 1 rfl) ?_
            refine lv_iload_n hx hb dX6_sizeOfRange_61 rfl (lv_at hl 0 rfl) ?_
            obtain ⟨v6, X7, h8, he⟩ := bn2_i he
            refine cVl (wf := (wSurvey k v h a P X7)) (As := [.int (x3 ||| (1 <<< (x4 &&& 31)))]) (rest := []) ⟨hx, hb, hml, hown, hts⟩ hK hA hP hD hS (mX6_sizeHeldOnlyBy l D k v h a (P := P) (X_0 := X) h8) (cwV 1 hts gX6_sizeOfRange_X6_sizeHeldOnlyBy rfl rfl rfl kX6_sizeHeldOnlyBy ⟨Nat.le_of_ble_eq_true rfl, Nat.le_of_ble_eq_true rfl⟩) [0, 1, 2, 3, 4, 5, 6, 7, 8, 9, 10, 11, 12] rfl rfl rfl [false, false, false, false, false, false, false, false, false, false, false, false, false] trivial 13 rfl (by decide +kernel) rfl 0 rfl rfl rfl hl.1 rfl (Nat.le_of_ble_eq_true rfl) ⟨Nat.le_refl 0, Nat.le_refl 0⟩ dX6_sizeOfRange_62 (fun H locs hP hD hS => ?_)
            obtain ⟨rfl, rfl⟩ := some2 he
            exact cRl hx hb hr hlk hK hP hD hS dX6_sizeOfRange_65
  have hS0 := hS
  have key : ∀ (H : Heap) (locs : List Loc), H = ss.heap → locs = [] → va_P D vwCl (wSurvey k v h a P X_0) H → va_S (va_A (wSurvey k v h a P X_0) ss.heap.size) ss.heap H locs → W pp l ee ({ frames := 3, cells := 0, slots := 0, locals := 69 } : Room) ss mm ([.ref v, .int p1, .int p2] : List Value).toArray bl me co H locs 0 0 (MQ bl (cQl D k (wSurvey k v h a P X_0) ss.heap.size r (wSurvey k v h a P X')) ([.ref v, .int p1, .int p2] : List Value).toArray ss 0 0 (va_A (wSurvey k v h a P X_0) ss.heap.size)) (F0 mm 0 ls []) := by
    intro H locs _ _ hP hS
    refine lv_aload_n hx hb dX6_sizeOfRange_0 rfl (lv_at hl 0 rfl) ?_
    refine va_get (D := D) (ci := 6) (v := .ref (a 0)) (C := RX6) (T := TX6) (N := 2) hx hb hts iX6 hown hK hP 0 rfl rfl 0 (by decide) w1 (fun _ h9 => h9) rfl dX6_sizeOfRange_1 ?_
    refine lv_iload_n hx hb dX6_sizeOfRange_4 rfl (lv_at hl 1 rfl) ?_
    obtain ⟨v1001, h1002, he⟩ := bn1_i he
    refine cVir (As := [.int p1]) (rest := []) ⟨hx, hb, hml, hown, hts⟩ hK hA hP hD hS (mX4_isSnapshot l D k a (P := P) h1002) (cwV 1 hts gX6_sizeOfRange_X4_isSnapshot rfl rfl rfl kX4_isSnapshot ⟨Nat.le_of_ble_eq_true rfl, Nat.le_of_ble_eq_true rfl⟩) [3, 4, 5, 6, 7, 8, 9, 10, 11, 12] rfl rfl 0 rfl rfl rfl hl.1 rfl (Nat.le_of_ble_eq_true rfl) ⟨Nat.le_refl 0, Nat.le_refl 0⟩ dX6_sizeOfRange_5 (fun H locs hP hD hS => ?_)
    refine lv_if_eq (tgt := 22) hx hb dX6_sizeOfRange_8 (by decide) (fun c1003 => ?_) (fun c1003 => ?_)
    · have he := ifp he c1003
      refine lv_ldc2 hx hb hown w2 dX6_sizeOfRange_22 ?_
      obtain ⟨rfl, rfl⟩ := some2 he
      exact cRl hx hb hr hlk hK hP hD hS dX6_sizeOfRange_25
    · have he := ifn he c1003
      refine lv_aload_n hx hb dX6_sizeOfRange_11 rfl (lv_at hl 0 rfl) ?_
      refine va_get (D := D) (ci := 6) (v := .ref (a 0)) (C := RX6) (T := TX6) (N := 2) hx hb hts iX6 hown hK hP 0 rfl rfl 0 (by decide) w1 (fun _ h9 => h9) rfl dX6_sizeOfRange_12 ?_
      refine lv_iload_n hx hb dX6_sizeOfRange_15 rfl (lv_at hl 2 rfl) ?_
      obtain ⟨v1004, h1005, he⟩ := bn1_i he
      refine cVir (As := [.int p2]) (rest := []) ⟨hx, hb, hml, hown, hts⟩ hK hA hP hD hS (mX4_isSnapshot l D k a (P := P) h1005) (cwV 1 hts gX6_sizeOfRange_X4_isSnapshot rfl rfl rfl kX4_isSnapshot ⟨Nat.le_of_ble_eq_true rfl, Nat.le_of_ble_eq_true rfl⟩) [3, 4, 5, 6, 7, 8, 9, 10, 11, 12] rfl rfl 0 rfl rfl rfl hl.1 rfl (Nat.le_of_ble_eq_true rfl) ⟨Nat.le_refl 0, Nat.le_refl 0⟩ dX6_sizeOfRange_16 (fun H locs hP hD hS => ?_)
      refine lv_if_ne (tgt := 26) hx hb dX6_sizeOfRange_19 (by decide) (fun c1006 => ?_) (fun c1006 => ?_)
      · have he := ifn he c1006
        refine lv_iconst (v := 0) hx hb dX6_sizeOfRange_26 (by decide) ?_
        refine lv_istore_n (lv' := [(3, .int 0), (0, .ref v), (1, .int p1), (2, .int p2)]) hx hb dX6_sizeOfRange_27 rfl hl (by decide) rfl (fun ls hl => ?_)
        refine lv_iload_n hx hb dX6_sizeOfRange_28 rfl (lv_at hl 3 rfl) ?_
        refine lv_istore (lv' := [(4, .int p2), (3, .int 0), (0, .ref v), (1, .int p1), (2, .int p2)]) hx hb dX6_sizeOfRange_29 hl (by decide) rfl (fun ls hl => ?_)
        refine lv_iconst (v := 0) hx hb dX6_sizeOfRange_31 (by decide) ?_
        refine lv_istore (lv' := [(5, .int 0), (4, .int p2), (3, .int 0), (0, .ref v), (1, .int p1), (2, .int p2)]) hx hb dX6_sizeOfRange_32 hl (by decide) rfl (fun ls hl => ?_)
        exact B34 600 p1 0 p2 0 X_0 he H locs hP hD hS ls (lv_sub hl [3, 4, 2, 1, 0] rfl)
      · have he := ifp he c1006
        refine lv_ldc2 hx hb hown w2 dX6_sizeOfRange_22 ?_
        obtain ⟨rfl, rfl⟩ := some2 he
        exact cRl hx hb hr hlk hK hP hD hS dX6_sizeOfRange_25
  exact key ss.heap [] rfl rfl hP hS
theorem kX6_sizeSince : yX6_sizeSince.cls = RX6 ∧ yX6_sizeSince.cls ≠ "java/lang/invoke/MethodHandle" ∧ yX6_sizeSince.cls ≠ "java/lang/invoke/VarHandle" ∧ (parseMethodDescriptor yX6_sizeSince.desc).map (fun d => d.parameters.length) = some 2 := by decide +kernel
set_option maxRecDepth 100000 in
set_option maxHeartbeats 4000000 in
theorem mX6_sizeSince (l : Launch) (D : va_G) (k : Nat → ClassId) (v : Nat) (h : Nat → Nat) (a : Nat → Nat) {P : Nat → Nat → Int32} {X : Nat → Int32} {p1 : Int32} {p2 : Int32} {r : Int64}  (he : xX6_sizeSince P p1 p2 = some r) : CtL l D k yX6_sizeSince wsX6_sizeSince ({ frames := 2, cells := 0, slots := 0, locals := 43 } : Room) [.ref v, .int p1, .int p2] (wSurvey k v h a P X) r (wSurvey k v h a P X) := by
  intro sz9
  refine cSt (lv := [(0, .ref v), (1, .int p1), (2, .int p2)]) (own := RX6) (cc := cX6_sizeSince) (nL := 7) (ret := (some .long)) (by decide +kernel) rfl rfl (Nat.le_of_ble_eq_true rfl) rfl ?_
  intro pp ee ss mm bl me co hsz hC0 hP hD hS ls hl
  subst hsz
  obtain ⟨hx, hb, hr, hml, hown, hts, hK, hlk⟩ := hC0
  have hA : ∀ q, ss.heap.size ≤ q → va_A (wSurvey k v h a P X) ss.heap.size q := fun q h => Or.inr h
  have iX6 : ∀ w ∈ wsX60, w ∈ wsX6_sizeSince := fun _ h => List.mem_cons_of_mem _ (List.mem_append_left _ (List.mem_append_right _ h))
  have w1 := hts (.fieldLink RX6 9 "DeadListPool$Survey" "pool" "LDeadListPool$Pool;") (List.mem_of_getElem? (i := 1) rfl)
  have w2 := hts (.constantLong RX6 104 (-4611686018427387904)) (List.mem_of_getElem? (i := 2) rfl)
  have B32 : ∀ (n32 : Nat) (x1 : Int32) (x2 : Int32) (x3 : Int64) (x5 : Int32), xX6_sizeSince_32 P n32 x1 x2 x3 x5 = some r → ∀ (H : Heap) (locs : List Loc), va_P D vwCl (wSurvey k v h a P X) H → va_D (va_A (wSurvey k v h a P X) ss.heap.size) (wSurvey k v h a P X) → va_S (va_A (wSurvey k v h a P X) ss.heap.size) ss.heap H locs → ∀ ls : Array Slot, lv_has ls 7 [(0, .ref v), (1, .int x1), (2, .int x2), (3, .long x3), (5, .int x5)] → W pp l ee ({ frames := 2, cells := 0, slots := 0, locals := 43 } : Room) ss mm ([.ref v, .int p1, .int p2] : List Value).toArray bl me co H locs 0 0 (MQ bl (cQl D k (wSurvey k v h a P X) ss.heap.size r (wSurvey k v h a P X)) ([.ref v, .int p1, .int p2] : List Value).toArray ss 0 0 (va_A (wSurvey k v h a P X) ss.heap.size)) (F0 mm 32 ls []) := by
    intro n32
    induction n32 with
    | zero =>
      intro x1 x2 x3 x5 he
      exact absurd (show (none : Option (Int64)) = some r from he) (by simp)
    | succ n32 ih32 =>
      intro x1 x2 x3 x5 he H locs hP hD hS ls hl
      refine lv_iload hx hb dX6_sizeSince_32 (lv_at hl 4 rfl) ?_
      refine lv_bipush (v := 12) hx hb dX6_sizeSince_34 (by decide) ?_
      refine lv_icmp_ge (tgt := 90) hx hb dX6_sizeSince_36 (by decide) (fun c1 => ?_) (fun c1 => ?_)
      · have he := ifp he c1
        refine lv_lload_n hx hb dX6_sizeSince_90 rfl (lv_at hl 3 rfl) ?_
        obtain rfl := some1 he
        exact cRl hx hb hr hlk hK hP hD hS dX6_sizeSince_91
      · have he := ifn he c1
        refine lv_aload_n hx hb dX6_sizeSince_39 rfl (lv_at hl 0 rfl) ?_
        refine va_get (D := D) (ci := 6) (v := .ref (a 0)) (C := RX6) (T := TX6) (N := 2) hx hb hts iX6 hown hK hP 0 rfl rfl 0 (by decide) w1 (fun _ h9 => h9) rfl dX6_sizeSince_40 ?_
        refine lv_iload_n hx hb dX6_sizeSince_43 rfl (lv_at hl 1 rfl) ?_
        refine lv_iload hx hb dX6_sizeSince_44 (lv_at hl 4 rfl) ?_
        obtain ⟨v2, h3, he⟩ := bn1_i he
        refine cVir (As := [.int x1, .int x5]) (rest := []) ⟨hx, hb, hml, hown, hts⟩ hK hA hP hD hS (mX4_blockIn l D k a (P := P) h3) (cwV 2 hts gX6_sizeSince_X4_blockIn rfl rfl rfl kX4_blockIn ⟨Nat.le_of_ble_eq_true rfl, Nat.le_of_ble_eq_true rfl⟩) [3, 4, 5, 6, 7, 8, 9, 10, 11, 12] rfl rfl 0 rfl rfl rfl hl.1 rfl (Nat.le_of_ble_eq_true rfl) ⟨Nat.le_refl 0, Nat.le_refl 0⟩ dX6_sizeSince_46 (fun H locs hP hD hS => ?_)
        refine lv_istore (lv' := [(6, .int v2), (0, .ref v), (1, .int x1), (2, .int x2), (3, .long x3), (5, .int x5)]) hx hb dX6_sizeSince_49 hl (by decide) rfl (fun ls hl => ?_)
        refine lv_aload_n hx hb dX6_sizeSince_51 rfl (lv_at hl 1 rfl) ?_
        refine va_get (D := D) (ci := 6) (v := .ref (a 0)) (C := RX6) (T := TX6) (N := 2) hx hb hts iX6 hown hK hP 0 rfl rfl 0 (by decide) w1 (fun _ h9 => h9) rfl dX6_sizeSince_52 ?_
        refine lv_iload hx hb dX6_sizeSince_55 (lv_at hl 0 rfl) ?_
        obtain ⟨v4, h5, he⟩ := bn1_i he
        refine cVir (As := [.int v2]) (rest := []) ⟨hx, hb, hml, hown, hts⟩ hK hA hP hD hS (mX4_birthOf l D k a (P := P) h5) (cwV 1 hts gX6_sizeSince_X4_birthOf rfl rfl rfl kX4_birthOf ⟨Nat.le_of_ble_eq_true rfl, Nat.le_of_ble_eq_true rfl⟩) [3, 4, 5, 6, 7, 8, 9, 10, 11, 12] rfl rfl 0 rfl rfl rfl hl.1 rfl (Nat.le_of_ble_eq_true rfl) ⟨Nat.le_refl 0, Nat.le_refl 0⟩ dX6_sizeSince_57 (fun H locs hP hD hS => ?_)
        refine lv_aload_n hx hb dX6_sizeSince_60 rfl (lv_at hl 1 rfl) ?_
        refine va_get (D := D) (ci := 6) (v := .ref (a 0)) (C := RX6) (T := TX6) (N := 2) hx hb hts iX6 hown hK hP 0 rfl rfl 0 (by decide) w1 (fun _ h9 => h9) rfl dX6_sizeSince_61 ?_
        refine lv_iload_n hx hb dX6_sizeSince_64 rfl (lv_at hl 3 rfl) ?_
        obtain ⟨v6, h7, he⟩ := bn1_i he
        refine cVir (As := [.int x2]) (rest := [.int v4]) ⟨hx, hb, hml, hown, hts⟩ hK hA hP hD hS (mX4_madeOf l D k a (P := P) h7) (cwV 1 hts gX6_sizeSince_X4_madeOf rfl rfl rfl kX4_madeOf ⟨Nat.le_of_ble_eq_true rfl, Nat.le_of_ble_eq_true rfl⟩) [3, 4, 5, 6, 7, 8, 9, 10, 11, 12] rfl rfl 0 rfl rfl rfl hl.1 rfl (Nat.le_of_ble_eq_true rfl) ⟨Nat.le_refl 0, Nat.le_refl 0⟩ dX6_sizeSince_65 (fun H locs hP hD hS => ?_)
        refine lv_icmp_le (tgt := 84) hx hb dX6_sizeSince_68 (by decide) (fun c8 => ?_) (fun c8 => ?_)
        · have he := ifp he c8
          refine lv_iinc (v := (x5 + 1)) (lv' := [(5, .int (x5 + 1)), (6, .int v2), (0, .ref v), (1, .int x1), (2, .int x2), (3, .long x3)]) hx hb dX6_sizeSince_84 hl (k := 5) rfl rfl (by decide) rfl (fun ls hl => ?_)
          refine lv_goto (tgt := 32) hx hb dX6_sizeSince_87 (by decide) ?_
          exact ih32 x1 x2 x3 (x5 + 1) he H locs hP hD hS ls (lv_sub hl [2, 3, 4, 5, 0] rfl)
        · have he := ifn he c8
          refine lv_lload_n hx hb dX6_sizeSince_71 rfl (lv_at hl 4 rfl) ?_
          refine lv_aload_n hx hb dX6_sizeSince_72 rfl (lv_at hl 1 rfl) ?_
          refine va_get (D := D) (ci := 6) (v := .ref (a 0)) (C := RX6) (T := TX6) (N := 2) hx hb hts iX6 hown hK hP 0 rfl rfl 0 (by decide) w1 (fun _ h9 => h9) rfl dX6_sizeSince_73 ?_
          refine lv_iload hx hb dX6_sizeSince_76 (lv_at hl 0 rfl) ?_
          obtain ⟨v9, h10, he⟩ := bn1_i he
          refine cVir (As := [.int v2]) (rest := [.long x3]) ⟨hx, hb, hml, hown, hts⟩ hK hA hP hD hS (mX4_sizeOf l D k a (P := P) h10) (cwV 1 hts gX6_sizeSince_X4_sizeOf rfl rfl rfl kX4_sizeOf ⟨Nat.le_of_ble_eq_true rfl, Nat.le_of_ble_eq_true rfl⟩) [3, 4, 5, 6, 7, 8, 9, 10, 11, 12] rfl rfl 0 rfl rfl rfl hl.1 rfl (Nat.le_of_ble_eq_true rfl) ⟨Nat.le_refl 0, Nat.le_refl 0⟩ dX6_sizeSince_78 (fun H locs hP hD hS => ?_)
          refine lv_i2l (v := (Int32.toInt64 v9)) hx hb dX6_sizeSince_81 rfl ?_
          refine lv_ladd hx hb dX6_sizeSince_82 ?_
          refine lv_lstore_n (lv' := [(3, .long (x3 + (Int32.toInt64 v9))), (6, .int v2), (0, .ref v), (1, .int x1), (2, .int x2), (5, .int x5)]) hx hb dX6_sizeSince_83 rfl hl (by decide) rfl (fun ls hl => ?_)
          refine lv_iinc (v := (x5 + 1)) (lv' := [(5, .int (x5 + 1)), (3, .long (x3 + (Int32.toInt64 v9))), (6, .int v2), (0, .ref v), (1, .int x1), (2, .int x2)]) hx hb dX6_sizeSince_84 hl (k := 5) rfl rfl (by decide) rfl (fun ls hl => ?_)
          refine lv_goto (tgt := 32) hx hb dX6_sizeSince_87 (by decide) ?_
          exact ih32 x1 x2 (x3 + (Int32.toInt64 v9)) (x5 + 1) he H locs hP hD hS ls (lv_sub hl [3, 4, 5, 1, 0] rfl)
  have hS0 := hS
  have key : ∀ (H : Heap) (locs : List Loc), H = ss.heap → locs = [] → va_P D vwCl (wSurvey k v h a P X) H → va_S (va_A (wSurvey k v h a P X) ss.heap.size) ss.heap H locs → W pp l ee ({ frames := 2, cells := 0, slots := 0, locals := 43 } : Room) ss mm ([.ref v, .int p1, .int p2] : List Value).toArray bl me co H locs 0 0 (MQ bl (cQl D k (wSurvey k v h a P X) ss.heap.size r (wSurvey k v h a P X)) ([.ref v, .int p1, .int p2] : List Value).toArray ss 0 0 (va_A (wSurvey k v h a P X) ss.heap.size)) (F0 mm 0 ls []) := by
    intro H locs _ _ hP hS
    refine lv_aload_n hx hb dX6_sizeSince_0 rfl (lv_at hl 0 rfl) ?_
    refine va_get (D := D) (ci := 6) (v := .ref (a 0)) (C := RX6) (T := TX6) (N := 2) hx hb hts iX6 hown hK hP 0 rfl rfl 0 (by decide) w1 (fun _ h9 => h9) rfl dX6_sizeSince_1 ?_
    refine lv_iload_n hx hb dX6_sizeSince_4 rfl (lv_at hl 1 rfl) ?_
    obtain ⟨v1001, h1002, he⟩ := bn1_i he
    refine cVir (As := [.int p1]) (rest := []) ⟨hx, hb, hml, hown, hts⟩ hK hA hP hD hS (mX4_isHolder l D k a (P := P) h1002) (cwV 1 hts gX6_sizeSince_X4_isHolder rfl rfl rfl kX4_isHolder ⟨Nat.le_of_ble_eq_true rfl, Nat.le_of_ble_eq_true rfl⟩) [3, 4, 5, 6, 7, 8, 9, 10, 11, 12] rfl rfl 0 rfl rfl rfl hl.1 rfl (Nat.le_of_ble_eq_true rfl) ⟨Nat.le_refl 0, Nat.le_refl 0⟩ dX6_sizeSince_5 (fun H locs hP hD hS => ?_)
    refine lv_if_eq (tgt := 23) hx hb dX6_sizeSince_8 (by decide) (fun c1003 => ?_) (fun c1003 => ?_)
    · have he := ifp he c1003
      refine lv_ldc2 hx hb hown w2 dX6_sizeSince_23 ?_
      obtain rfl := some1 he
      exact cRl hx hb hr hlk hK hP hD hS dX6_sizeSince_26
    · have he := ifn he c1003
      refine lv_aload_n hx hb dX6_sizeSince_11 rfl (lv_at hl 0 rfl) ?_
      refine va_get (D := D) (ci := 6) (v := .ref (a 0)) (C := RX6) (T := TX6) (N := 2) hx hb hts iX6 hown hK hP 0 rfl rfl 0 (by decide) w1 (fun _ h9 => h9) rfl dX6_sizeSince_12 ?_
      refine lv_iload_n hx hb dX6_sizeSince_15 rfl (lv_at hl 2 rfl) ?_
      obtain ⟨v1004, h1005, he⟩ := bn1_i he
      refine cVir (As := [.int p2]) (rest := []) ⟨hx, hb, hml, hown, hts⟩ hK hA hP hD hS (mX4_kindOf l D k a (P := P) h1005) (cwV 1 hts gX6_sizeSince_X4_kindOf rfl rfl rfl kX4_kindOf ⟨Nat.le_of_ble_eq_true rfl, Nat.le_of_ble_eq_true rfl⟩) [3, 4, 5, 6, 7, 8, 9, 10, 11, 12] rfl rfl 0 rfl rfl rfl hl.1 rfl (Nat.le_of_ble_eq_true rfl) ⟨Nat.le_refl 0, Nat.le_refl 0⟩ dX6_sizeSince_16 (fun H locs hP hD hS => ?_)
      refine lv_iconst (v := (-1)) hx hb dX6_sizeSince_19 (by decide) ?_
      refine lv_icmp_ne (tgt := 27) hx hb dX6_sizeSince_20 (by decide) (fun c1006 => ?_) (fun c1006 => ?_)
      · have he := ifn he c1006
        refine lv_lconst (v := 0) hx hb dX6_sizeSince_27 (by decide) ?_
        refine lv_lstore_n (lv' := [(3, .long 0), (0, .ref v), (1, .int p1), (2, .int p2)]) hx hb dX6_sizeSince_28 rfl hl (by decide) rfl (fun ls hl => ?_)
        refine lv_iconst (v := 0) hx hb dX6_sizeSince_29 (by decide) ?_
        refine lv_istore (lv' := [(5, .int 0), (3, .long 0), (0, .ref v), (1, .int p1), (2, .int p2)]) hx hb dX6_sizeSince_30 hl (by decide) rfl (fun ls hl => ?_)
        exact B32 600 p1 p2 0 0 he H locs hP hD hS ls (lv_sub hl [2, 3, 4, 1, 0] rfl)
      · have he := ifp he c1006
        refine lv_ldc2 hx hb hown w2 dX6_sizeSince_23 ?_
        obtain rfl := some1 he
        exact cRl hx hb hr hlk hK hP hD hS dX6_sizeSince_26
  exact key ss.heap [] rfl rfl hP hS
theorem kX6_sizeInBoth : yX6_sizeInBoth.cls = RX6 ∧ yX6_sizeInBoth.cls ≠ "java/lang/invoke/MethodHandle" ∧ yX6_sizeInBoth.cls ≠ "java/lang/invoke/VarHandle" ∧ (parseMethodDescriptor yX6_sizeInBoth.desc).map (fun d => d.parameters.length) = some 2 := by decide +kernel
set_option maxRecDepth 100000 in
set_option maxHeartbeats 4000000 in
theorem mX6_sizeInBoth (l : Launch) (D : va_G) (k : Nat → ClassId) (v : Nat) (h : Nat → Nat) (a : Nat → Nat) {P : Nat → Nat → Int32} {X : Nat → Int32} {p1 : Int32} {p2 : Int32} {r : Int64}  (he : xX6_sizeInBoth P p1 p2 = some r) : CtL l D k yX6_sizeInBoth wsX6_sizeInBoth ({ frames := 2, cells := 0, slots := 0, locals := 43 } : Room) [.ref v, .int p1, .int p2] (wSurvey k v h a P X) r (wSurvey k v h a P X) := by
  intro sz9
  refine cSt (lv := [(0, .ref v), (1, .int p1), (2, .int p2)]) (own := RX6) (cc := cX6_sizeInBoth) (nL := 7) (ret := (some .long)) (by decide +kernel) rfl rfl (Nat.le_of_ble_eq_true rfl) rfl ?_
  intro pp ee ss mm bl me co hsz hC0 hP hD hS ls hl
  subst hsz
  obtain ⟨hx, hb, hr, hml, hown, hts, hK, hlk⟩ := hC0
  have hA : ∀ q, ss.heap.size ≤ q → va_A (wSurvey k v h a P X) ss.heap.size q := fun q h => Or.inr h
  have iX6 : ∀ w ∈ wsX60, w ∈ wsX6_sizeInBoth := fun _ h => List.mem_cons_of_mem _ (List.mem_append_left _ (List.mem_append_right _ h))
  have w1 := hts (.fieldLink RX6 9 "DeadListPool$Survey" "pool" "LDeadListPool$Pool;") (List.mem_of_getElem? (i := 1) rfl)
  have w2 := hts (.constantLong RX6 104 (-4611686018427387904)) (List.mem_of_getElem? (i := 2) rfl)
  have B31 : ∀ (n31 : Nat) (x1 : Int32) (x2 : Int32) (x3 : Int64) (x5 : Int32), xX6_sizeInBoth_31 P n31 x1 x2 x3 x5 = some r → ∀ (H : Heap) (locs : List Loc), va_P D vwCl (wSurvey k v h a P X) H → va_D (va_A (wSurvey k v h a P X) ss.heap.size) (wSurvey k v h a P X) → va_S (va_A (wSurvey k v h a P X) ss.heap.size) ss.heap H locs → ∀ ls : Array Slot, lv_has ls 7 [(0, .ref v), (1, .int x1), (2, .int x2), (3, .long x3), (5, .int x5)] → W pp l ee ({ frames := 2, cells := 0, slots := 0, locals := 43 } : Room) ss mm ([.ref v, .int p1, .int p2] : List Value).toArray bl me co H locs 0 0 (MQ bl (cQl D k (wSurvey k v h a P X) ss.heap.size r (wSurvey k v h a P X)) ([.ref v, .int p1, .int p2] : List Value).toArray ss 0 0 (va_A (wSurvey k v h a P X) ss.heap.size)) (F0 mm 31 ls []) := by
    intro n31
    induction n31 with
    | zero =>
      intro x1 x2 x3 x5 he
      exact absurd (show (none : Option (Int64)) = some r from he) (by simp)
    | succ n31 ih31 =>
      intro x1 x2 x3 x5 he H locs hP hD hS ls hl
      refine lv_iload hx hb dX6_sizeInBoth_31 (lv_at hl 4 rfl) ?_
      refine lv_bipush (v := 12) hx hb dX6_sizeInBoth_33 (by decide) ?_
      refine lv_icmp_ge (tgt := 84) hx hb dX6_sizeInBoth_35 (by decide) (fun c1 => ?_) (fun c1 => ?_)
      · have he := ifp he c1
        refine lv_lload_n hx hb dX6_sizeInBoth_84 rfl (lv_at hl 3 rfl) ?_
        obtain rfl := some1 he
        exact cRl hx hb hr hlk hK hP hD hS dX6_sizeInBoth_85
      · have he := ifn he c1
        refine lv_aload_n hx hb dX6_sizeInBoth_38 rfl (lv_at hl 0 rfl) ?_
        refine va_get (D := D) (ci := 6) (v := .ref (a 0)) (C := RX6) (T := TX6) (N := 2) hx hb hts iX6 hown hK hP 0 rfl rfl 0 (by decide) w1 (fun _ h9 => h9) rfl dX6_sizeInBoth_39 ?_
        refine lv_iload_n hx hb dX6_sizeInBoth_42 rfl (lv_at hl 1 rfl) ?_
        refine lv_iload hx hb dX6_sizeInBoth_43 (lv_at hl 4 rfl) ?_
        obtain ⟨v2, h3, he⟩ := bn1_i he
        refine cVir (As := [.int x1, .int x5]) (rest := []) ⟨hx, hb, hml, hown, hts⟩ hK hA hP hD hS (mX4_blockIn l D k a (P := P) h3) (cwV 2 hts gX6_sizeInBoth_X4_blockIn rfl rfl rfl kX4_blockIn ⟨Nat.le_of_ble_eq_true rfl, Nat.le_of_ble_eq_true rfl⟩) [3, 4, 5, 6, 7, 8, 9, 10, 11, 12] rfl rfl 0 rfl rfl rfl hl.1 rfl (Nat.le_of_ble_eq_true rfl) ⟨Nat.le_refl 0, Nat.le_refl 0⟩ dX6_sizeInBoth_45 (fun H locs hP hD hS => ?_)
        refine lv_istore (lv' := [(6, .int v2), (0, .ref v), (1, .int x1), (2, .int x2), (3, .long x3), (5, .int x5)]) hx hb dX6_sizeInBoth_48 hl (by decide) rfl (fun ls hl => ?_)
        refine lv_iload hx hb dX6_sizeInBoth_50 (lv_at hl 0 rfl) ?_
        refine lv_aload_n hx hb dX6_sizeInBoth_52 rfl (lv_at hl 1 rfl) ?_
        refine va_get (D := D) (ci := 6) (v := .ref (a 0)) (C := RX6) (T := TX6) (N := 2) hx hb hts iX6 hown hK hP 0 rfl rfl 0 (by decide) w1 (fun _ h9 => h9) rfl dX6_sizeInBoth_53 ?_
        refine lv_iload_n hx hb dX6_sizeInBoth_56 rfl (lv_at hl 3 rfl) ?_
        refine lv_iload hx hb dX6_sizeInBoth_57 (lv_at hl 5 rfl) ?_
        obtain ⟨v4, h5, he⟩ := bn1_i he
        refine cVir (As := [.int x2, .int x5]) (rest := [.int v2]) ⟨hx, hb, hml, hown, hts⟩ hK hA hP hD hS (mX4_blockIn l D k a (P := P) h5) (cwV 2 hts gX6_sizeInBoth_X4_blockIn rfl rfl rfl kX4_blockIn ⟨Nat.le_of_ble_eq_true rfl, Nat.le_of_ble_eq_true rfl⟩) [3, 4, 5, 6, 7, 8, 9, 10, 11, 12] rfl rfl 0 rfl rfl rfl hl.1 rfl (Nat.le_of_ble_eq_true rfl) ⟨Nat.le_refl 0, Nat.le_refl 0⟩ dX6_sizeInBoth_59 (fun H locs hP hD hS => ?_)
        refine lv_icmp_ne (tgt := 78) hx hb dX6_sizeInBoth_62 (by decide) (fun c6 => ?_) (fun c6 => ?_)
        · have he := ifn he c6
          refine lv_iinc (v := (x5 + 1)) (lv' := [(5, .int (x5 + 1)), (6, .int v2), (0, .ref v), (1, .int x1), (2, .int x2), (3, .long x3)]) hx hb dX6_sizeInBoth_78 hl (k := 5) rfl rfl (by decide) rfl (fun ls hl => ?_)
          refine lv_goto (tgt := 31) hx hb dX6_sizeInBoth_81 (by decide) ?_
          exact ih31 x1 x2 x3 (x5 + 1) he H locs hP hD hS ls (lv_sub hl [2, 3, 4, 5, 0] rfl)
        · have he := ifp he c6
          refine lv_lload_n hx hb dX6_sizeInBoth_65 rfl (lv_at hl 4 rfl) ?_
          refine lv_aload_n hx hb dX6_sizeInBoth_66 rfl (lv_at hl 1 rfl) ?_
          refine va_get (D := D) (ci := 6) (v := .ref (a 0)) (C := RX6) (T := TX6) (N := 2) hx hb hts iX6 hown hK hP 0 rfl rfl 0 (by decide) w1 (fun _ h9 => h9) rfl dX6_sizeInBoth_67 ?_
          refine lv_iload hx hb dX6_sizeInBoth_70 (lv_at hl 0 rfl) ?_
          obtain ⟨v7, h8, he⟩ := bn1_i he
          refine cVir (As := [.int v2]) (rest := [.long x3]) ⟨hx, hb, hml, hown, hts⟩ hK hA hP hD hS (mX4_sizeOf l D k a (P := P) h8) (cwV 1 hts gX6_sizeInBoth_X4_sizeOf rfl rfl rfl kX4_sizeOf ⟨Nat.le_of_ble_eq_true rfl, Nat.le_of_ble_eq_true rfl⟩) [3, 4, 5, 6, 7, 8, 9, 10, 11, 12] rfl rfl 0 rfl rfl rfl hl.1 rfl (Nat.le_of_ble_eq_true rfl) ⟨Nat.le_refl 0, Nat.le_refl 0⟩ dX6_sizeInBoth_72 (fun H locs hP hD hS => ?_)
          refine lv_i2l (v := (Int32.toInt64 v7)) hx hb dX6_sizeInBoth_75 rfl ?_
          refine lv_ladd hx hb dX6_sizeInBoth_76 ?_
          refine lv_lstore_n (lv' := [(3, .long (x3 + (Int32.toInt64 v7))), (6, .int v2), (0, .ref v), (1, .int x1), (2, .int x2), (5, .int x5)]) hx hb dX6_sizeInBoth_77 rfl hl (by decide) rfl (fun ls hl => ?_)
          refine lv_iinc (v := (x5 + 1)) (lv' := [(5, .int (x5 + 1)), (3, .long (x3 + (Int32.toInt64 v7))), (6, .int v2), (0, .ref v), (1, .int x1), (2, .int x2)]) hx hb dX6_sizeInBoth_78 hl (k := 5) rfl rfl (by decide) rfl (fun ls hl => ?_)
          refine lv_goto (tgt := 31) hx hb dX6_sizeInBoth_81 (by decide) ?_
          exact ih31 x1 x2 (x3 + (Int32.toInt64 v7)) (x5 + 1) he H locs hP hD hS ls (lv_sub hl [3, 4, 5, 1, 0] rfl)
  have hS0 := hS
  have key : ∀ (H : Heap) (locs : List Loc), H = ss.heap → locs = [] → va_P D vwCl (wSurvey k v h a P X) H → va_S (va_A (wSurvey k v h a P X) ss.heap.size) ss.heap H locs → W pp l ee ({ frames := 2, cells := 0, slots := 0, locals := 43 } : Room) ss mm ([.ref v, .int p1, .int p2] : List Value).toArray bl me co H locs 0 0 (MQ bl (cQl D k (wSurvey k v h a P X) ss.heap.size r (wSurvey k v h a P X)) ([.ref v, .int p1, .int p2] : List Value).toArray ss 0 0 (va_A (wSurvey k v h a P X) ss.heap.size)) (F0 mm 0 ls []) := by
    intro H locs _ _ hP hS
    refine lv_aload_n hx hb dX6_sizeInBoth_0 rfl (lv_at hl 0 rfl) ?_
    refine va_get (D := D) (ci := 6) (v := .ref (a 0)) (C := RX6) (T := TX6) (N := 2) hx hb hts iX6 hown hK hP 0 rfl rfl 0 (by decide) w1 (fun _ h9 => h9) rfl dX6_sizeInBoth_1 ?_
    refine lv_iload_n hx hb dX6_sizeInBoth_4 rfl (lv_at hl 1 rfl) ?_
    obtain ⟨v1001, h1002, he⟩ := bn1_i he
    refine cVir (As := [.int p1]) (rest := []) ⟨hx, hb, hml, hown, hts⟩ hK hA hP hD hS (mX4_isHolder l D k a (P := P) h1002) (cwV 1 hts gX6_sizeInBoth_X4_isHolder rfl rfl rfl kX4_isHolder ⟨Nat.le_of_ble_eq_true rfl, Nat.le_of_ble_eq_true rfl⟩) [3, 4, 5, 6, 7, 8, 9, 10, 11, 12] rfl rfl 0 rfl rfl rfl hl.1 rfl (Nat.le_of_ble_eq_true rfl) ⟨Nat.le_refl 0, Nat.le_refl 0⟩ dX6_sizeInBoth_5 (fun H locs hP hD hS => ?_)
    refine lv_if_eq (tgt := 22) hx hb dX6_sizeInBoth_8 (by decide) (fun c1003 => ?_) (fun c1003 => ?_)
    · have he := ifp he c1003
      refine lv_ldc2 hx hb hown w2 dX6_sizeInBoth_22 ?_
      obtain rfl := some1 he
      exact cRl hx hb hr hlk hK hP hD hS dX6_sizeInBoth_25
    · have he := ifn he c1003
      refine lv_aload_n hx hb dX6_sizeInBoth_11 rfl (lv_at hl 0 rfl) ?_
      refine va_get (D := D) (ci := 6) (v := .ref (a 0)) (C := RX6) (T := TX6) (N := 2) hx hb hts iX6 hown hK hP 0 rfl rfl 0 (by decide) w1 (fun _ h9 => h9) rfl dX6_sizeInBoth_12 ?_
      refine lv_iload_n hx hb dX6_sizeInBoth_15 rfl (lv_at hl 2 rfl) ?_
      obtain ⟨v1004, h1005, he⟩ := bn1_i he
      refine cVir (As := [.int p2]) (rest := []) ⟨hx, hb, hml, hown, hts⟩ hK hA hP hD hS (mX4_isHolder l D k a (P := P) h1005) (cwV 1 hts gX6_sizeInBoth_X4_isHolder rfl rfl rfl kX4_isHolder ⟨Nat.le_of_ble_eq_true rfl, Nat.le_of_ble_eq_true rfl⟩) [3, 4, 5, 6, 7, 8, 9, 10, 11, 12] rfl rfl 0 rfl rfl rfl hl.1 rfl (Nat.le_of_ble_eq_true rfl) ⟨Nat.le_refl 0, Nat.le_refl 0⟩ dX6_sizeInBoth_16 (fun H locs hP hD hS => ?_)
      refine lv_if_ne (tgt := 26) hx hb dX6_sizeInBoth_19 (by decide) (fun c1006 => ?_) (fun c1006 => ?_)
      · have he := ifn he c1006
        refine lv_lconst (v := 0) hx hb dX6_sizeInBoth_26 (by decide) ?_
        refine lv_lstore_n (lv' := [(3, .long 0), (0, .ref v), (1, .int p1), (2, .int p2)]) hx hb dX6_sizeInBoth_27 rfl hl (by decide) rfl (fun ls hl => ?_)
        refine lv_iconst (v := 0) hx hb dX6_sizeInBoth_28 (by decide) ?_
        refine lv_istore (lv' := [(5, .int 0), (3, .long 0), (0, .ref v), (1, .int p1), (2, .int p2)]) hx hb dX6_sizeInBoth_29 hl (by decide) rfl (fun ls hl => ?_)
        exact B31 600 p1 p2 0 0 he H locs hP hD hS ls (lv_sub hl [2, 3, 4, 1, 0] rfl)
      · have he := ifp he c1006
        refine lv_ldc2 hx hb hown w2 dX6_sizeInBoth_22 ?_
        obtain rfl := some1 he
        exact cRl hx hb hr hlk hK hP hD hS dX6_sizeInBoth_25
  exact key ss.heap [] rfl rfl hP hS
theorem kX6_writeDifference : yX6_writeDifference.cls = RX6 ∧ yX6_writeDifference.cls ≠ "java/lang/invoke/MethodHandle" ∧ yX6_writeDifference.cls ≠ "java/lang/invoke/VarHandle" ∧ (parseMethodDescriptor yX6_writeDifference.desc).map (fun d => d.parameters.length) = some 3 := by decide +kernel
set_option maxRecDepth 100000 in
set_option maxHeartbeats 4000000 in
theorem mX6_writeDifference (l : Launch) (D : va_G) (k : Nat → ClassId) (v : Nat) (h : Nat → Nat) (a : Nat → Nat) (t : Nat → Nat) {P : Nat → Nat → Int32} {X : Nat → Int32} {so_0 : Int32} {le_0 : Int32} {ro_0 : Nat → Int64} {p1 : Int32} {p2 : Int32} {r : Int32} {so' : Int32} {le' : Int32} {ro' : Nat → Int64} (he : xX6_writeDifference P so_0 le_0 ro_0 p1 p2 = some (r, so', le', ro')) : CtI l D k yX6_writeDifference wsX6_writeDifference ({ frames := 2, cells := 0, slots := 0, locals := 46 } : Room) [.ref v, .int p1, .int p2, .ref (t 0)] (wSurveySheet k v h a t P X so_0 le_0 ro_0) r (wSurveySheet k v h a t P X so' le' ro') := by
  intro sz9
  refine cSt (lv := [(0, .ref v), (1, .int p1), (2, .int p2), (3, .ref (t 0))]) (own := RX6) (cc := cX6_writeDifference) (nL := 6) (ret := (some .int)) (by decide +kernel) rfl rfl (Nat.le_of_ble_eq_true rfl) rfl ?_
  intro pp ee ss mm bl me co hsz hC0 hP hD hS ls hl
  subst hsz
  obtain ⟨hx, hb, hr, hml, hown, hts, hK, hlk⟩ := hC0
  have hA : ∀ q, ss.heap.size ≤ q → va_A (wSurveySheet k v h a t P X so_0 le_0 ro_0) ss.heap.size q := fun q h => Or.inr h
  have iX6 : ∀ w ∈ wsX60, w ∈ wsX6_writeDifference := fun _ h => List.mem_cons_of_mem _ (List.mem_append_left _ (List.mem_append_left _ (List.mem_append_right _ h)))
  have w1 := hts (.fieldLink RX6 9 "DeadListPool$Survey" "pool" "LDeadListPool$Pool;") (List.mem_of_getElem? (i := 1) rfl)
  have B9 : ∀ (n9 : Nat) (x1 : Int32) (x2 : Int32) (x4 : Int32) (so : Int32) (le : Int32) (ro : Nat → Int64), xX6_writeDifference_9 P n9 x1 x2 x4 so le ro = some (r, so', le', ro') → ∀ (H : Heap) (locs : List Loc), va_P D vwCl (wSurveySheet k v h a t P X so le ro) H → va_D (va_A (wSurveySheet k v h a t P X so_0 le_0 ro_0) ss.heap.size) (wSurveySheet k v h a t P X so le ro) → va_S (va_A (wSurveySheet k v h a t P X so_0 le_0 ro_0) ss.heap.size) ss.heap H locs → ∀ ls : Array Slot, lv_has ls 6 [(0, .ref v), (1, .int x1), (2, .int x2), (3, .ref (t 0)), (4, .int x4)] → W pp l ee ({ frames := 2, cells := 0, slots := 0, locals := 46 } : Room) ss mm ([.ref v, .int p1, .int p2, .ref (t 0)] : List Value).toArray bl me co H locs 0 0 (MQ bl (cQi D k (wSurveySheet k v h a t P X so_0 le_0 ro_0) ss.heap.size r (wSurveySheet k v h a t P X so' le' ro')) ([.ref v, .int p1, .int p2, .ref (t 0)] : List Value).toArray ss 0 0 (va_A (wSurveySheet k v h a t P X so_0 le_0 ro_0) ss.heap.size)) (F0 mm 9 ls []) := by
    intro n9
    induction n9 with
    | zero =>
      intro x1 x2 x4 so le ro he
      exact absurd (show (none : Option (Int32 × Int32 × Int32 × (Nat → Int64))) = some (r, so', le', ro') from he) (by simp)
    | succ n9 ih9 =>
      intro x1 x2 x4 so le ro he H locs hP hD hS ls hl
      refine lv_iload hx hb dX6_writeDifference_9 (lv_at hl 4 rfl) ?_
      refine lv_bipush (v := 12) hx hb dX6_writeDifference_11 (by decide) ?_
      refine lv_icmp_ge (tgt := 70) hx hb dX6_writeDifference_13 (by decide) (fun c1 => ?_) (fun c1 => ?_)
      · have he := ifp he c1
        refine lv_aload_n hx hb dX6_writeDifference_70 rfl (lv_at hl 3 rfl) ?_
        obtain ⟨v2, h3, he⟩ := bn1_i he
        refine cVir (As := []) (rest := []) ⟨hx, hb, hml, hown, hts⟩ hK hA hP hD hS (mX5_size l D k t (so := so) (le := le) (ro := ro) h3) (cwV 0 hts gX6_writeDifference_X5_size rfl rfl rfl kX5_size ⟨Nat.le_of_ble_eq_true rfl, Nat.le_of_ble_eq_true rfl⟩) [13, 14] rfl rfl 0 rfl rfl rfl hl.1 rfl (Nat.le_of_ble_eq_true rfl) ⟨Nat.le_refl 0, Nat.le_refl 0⟩ dX6_writeDifference_71 (fun H locs hP hD hS => ?_)
        obtain ⟨rfl, rfl, rfl, rfl⟩ := some4 he
        exact cRi hx hb hr hlk hK rfl hP hD hS dX6_writeDifference_74
      · have he := ifn he c1
        refine lv_aload_n hx hb dX6_writeDifference_16 rfl (lv_at hl 0 rfl) ?_
        refine va_get (D := D) (ci := 6) (v := .ref (a 0)) (C := RX6) (T := TX6) (N := 2) hx hb hts iX6 hown hK hP 0 rfl rfl 0 (by decide) w1 (fun _ h9 => h9) rfl dX6_writeDifference_17 ?_
        refine lv_iload_n hx hb dX6_writeDifference_20 rfl (lv_at hl 2 rfl) ?_
        refine lv_iload hx hb dX6_writeDifference_21 (lv_at hl 4 rfl) ?_
        obtain ⟨v4, h5, he⟩ := bn1_i he
        refine cVir (As := [.int x2, .int x4]) (rest := []) ⟨hx, hb, hml, hown, hts⟩ hK hA hP hD hS (mX4_blockIn l D k a (P := P) h5) (cwV 2 hts gX6_writeDifference_X4_blockIn rfl rfl rfl kX4_blockIn ⟨Nat.le_of_ble_eq_true rfl, Nat.le_of_ble_eq_true rfl⟩) [3, 4, 5, 6, 7, 8, 9, 10, 11, 12] rfl rfl 0 rfl rfl rfl hl.1 rfl (Nat.le_of_ble_eq_true rfl) ⟨Nat.le_refl 0, Nat.le_refl 0⟩ dX6_writeDifference_23 (fun H locs hP hD hS => ?_)
        refine lv_istore (lv' := [(5, .int v4), (0, .ref v), (1, .int x1), (2, .int x2), (3, .ref (t 0)), (4, .int x4)]) hx hb dX6_writeDifference_26 hl (by decide) rfl (fun ls hl => ?_)
        refine lv_iload hx hb dX6_writeDifference_28 (lv_at hl 0 rfl) ?_
        refine lv_aload_n hx hb dX6_writeDifference_30 rfl (lv_at hl 1 rfl) ?_
        refine va_get (D := D) (ci := 6) (v := .ref (a 0)) (C := RX6) (T := TX6) (N := 2) hx hb hts iX6 hown hK hP 0 rfl rfl 0 (by decide) w1 (fun _ h9 => h9) rfl dX6_writeDifference_31 ?_
        refine lv_iload_n hx hb dX6_writeDifference_34 rfl (lv_at hl 2 rfl) ?_
        refine lv_iload hx hb dX6_writeDifference_35 (lv_at hl 5 rfl) ?_
        obtain ⟨v6, h7, he⟩ := bn1_i he
        refine cVir (As := [.int x1, .int x4]) (rest := [.int v4]) ⟨hx, hb, hml, hown, hts⟩ hK hA hP hD hS (mX4_blockIn l D k a (P := P) h7) (cwV 2 hts gX6_writeDifference_X4_blockIn rfl rfl rfl kX4_blockIn ⟨Nat.le_of_ble_eq_true rfl, Nat.le_of_ble_eq_true rfl⟩) [3, 4, 5, 6, 7, 8, 9, 10, 11, 12] rfl rfl 0 rfl rfl rfl hl.1 rfl (Nat.le_of_ble_eq_true rfl) ⟨Nat.le_refl 0, Nat.le_refl 0⟩ dX6_writeDifference_37 (fun H locs hP hD hS => ?_)
        refine lv_icmp_eq (tgt := 64) hx hb dX6_writeDifference_40 (by decide) (fun c8 => ?_) (fun c8 => ?_)
        · have he := ifp he c8
          refine lv_iinc (v := (x4 + 1)) (lv' := [(4, .int (x4 + 1)), (5, .int v4), (0, .ref v), (1, .int x1), (2, .int x2), (3, .ref (t 0))]) hx hb dX6_writeDifference_64 hl (k := 5) rfl rfl (by decide) rfl (fun ls hl => ?_)
          refine lv_goto (tgt := 9) hx hb dX6_writeDifference_67 (by decide) ?_
          exact ih9 x1 x2 (x4 + 1) so le ro he H locs hP hD hS ls (lv_sub hl [2, 3, 4, 5, 0] rfl)
        · have he := ifn he c8
          refine lv_aload_n hx hb dX6_writeDifference_43 rfl (lv_at hl 4 rfl) ?_
          refine lv_iload hx hb dX6_writeDifference_44 (lv_at hl 5 rfl) ?_
          refine lv_i2l (v := (Int32.toInt64 x4)) hx hb dX6_writeDifference_46 rfl ?_
          obtain ⟨le9, ro10, h11, he⟩ := bn2_i he
          refine cVv (wf := (wSurveySheet k v h a t P X so le9 ro10)) (As := [.long (Int32.toInt64 x4)]) (rest := []) ⟨hx, hb, hml, hown, hts⟩ hK hA hP hD hS (mX5_append l D k t (so := so) (le_0 := le) (ro_0 := ro) h11) (cwV 1 hts gX6_writeDifference_X5_append rfl rfl rfl kX5_append ⟨Nat.le_of_ble_eq_true rfl, Nat.le_of_ble_eq_true rfl⟩) [13, 14] rfl rfl rfl [true, true, true, true, true, true, true, true, true, true, true, true, true, false, false] ⟨rfl, rfl, rfl, rfl, rfl, rfl, rfl, rfl, rfl, rfl, rfl, rfl, rfl, trivial⟩ 15 rfl (by decide +kernel) rfl 0 rfl rfl rfl hl.1 rfl (Nat.le_of_ble_eq_true rfl) ⟨Nat.le_refl 0, Nat.le_refl 0⟩ dX6_writeDifference_47 (fun H locs hP hD hS => ?_)
          refine lv_aload_n hx hb dX6_writeDifference_50 rfl (lv_at hl 4 rfl) ?_
          refine lv_aload_n hx hb dX6_writeDifference_51 rfl (lv_at hl 1 rfl) ?_
          refine va_get (D := D) (ci := 6) (v := .ref (a 0)) (C := RX6) (T := TX6) (N := 2) hx hb hts iX6 hown hK hP 0 rfl rfl 0 (by decide) w1 (fun _ h9 => h9) rfl dX6_writeDifference_52 ?_
          refine lv_iload hx hb dX6_writeDifference_55 (lv_at hl 0 rfl) ?_
          obtain ⟨v12, h13, he⟩ := bn1_i he
          refine cVir (As := [.int v4]) (rest := [.ref (t 0)]) ⟨hx, hb, hml, hown, hts⟩ hK hA hP hD hS (mX4_sizeOf l D k a (P := P) h13) (cwV 1 hts gX6_writeDifference_X4_sizeOf rfl rfl rfl kX4_sizeOf ⟨Nat.le_of_ble_eq_true rfl, Nat.le_of_ble_eq_true rfl⟩) [3, 4, 5, 6, 7, 8, 9, 10, 11, 12] rfl rfl 0 rfl rfl rfl hl.1 rfl (Nat.le_of_ble_eq_true rfl) ⟨Nat.le_refl 0, Nat.le_refl 0⟩ dX6_writeDifference_57 (fun H locs hP hD hS => ?_)
          refine lv_i2l (v := (Int32.toInt64 v12)) hx hb dX6_writeDifference_60 rfl ?_
          obtain ⟨le14, ro15, h16, he⟩ := bn2_i he
          refine cVv (wf := (wSurveySheet k v h a t P X so le14 ro15)) (As := [.long (Int32.toInt64 v12)]) (rest := []) ⟨hx, hb, hml, hown, hts⟩ hK hA hP hD hS (mX5_append l D k t (so := so) (le_0 := le9) (ro_0 := ro10) h16) (cwV 1 hts gX6_writeDifference_X5_append rfl rfl rfl kX5_append ⟨Nat.le_of_ble_eq_true rfl, Nat.le_of_ble_eq_true rfl⟩) [13, 14] rfl rfl rfl [true, true, true, true, true, true, true, true, true, true, true, true, true, false, false] ⟨rfl, rfl, rfl, rfl, rfl, rfl, rfl, rfl, rfl, rfl, rfl, rfl, rfl, trivial⟩ 15 rfl (by decide +kernel) rfl 0 rfl rfl rfl hl.1 rfl (Nat.le_of_ble_eq_true rfl) ⟨Nat.le_refl 0, Nat.le_refl 0⟩ dX6_writeDifference_61 (fun H locs hP hD hS => ?_)
          refine lv_iinc (v := (x4 + 1)) (lv' := [(4, .int (x4 + 1)), (5, .int v4), (0, .ref v), (1, .int x1), (2, .int x2), (3, .ref (t 0))]) hx hb dX6_writeDifference_64 hl (k := 5) rfl rfl (by decide) rfl (fun ls hl => ?_)
          refine lv_goto (tgt := 9) hx hb dX6_writeDifference_67 (by decide) ?_
          exact ih9 x1 x2 (x4 + 1) so le14 ro15 he H locs hP hD hS ls (lv_sub hl [2, 3, 4, 5, 0] rfl)
  have hS0 := hS
  have key : ∀ (H : Heap) (locs : List Loc), H = ss.heap → locs = [] → va_P D vwCl (wSurveySheet k v h a t P X so_0 le_0 ro_0) H → va_S (va_A (wSurveySheet k v h a t P X so_0 le_0 ro_0) ss.heap.size) ss.heap H locs → W pp l ee ({ frames := 2, cells := 0, slots := 0, locals := 46 } : Room) ss mm ([.ref v, .int p1, .int p2, .ref (t 0)] : List Value).toArray bl me co H locs 0 0 (MQ bl (cQi D k (wSurveySheet k v h a t P X so_0 le_0 ro_0) ss.heap.size r (wSurveySheet k v h a t P X so' le' ro')) ([.ref v, .int p1, .int p2, .ref (t 0)] : List Value).toArray ss 0 0 (va_A (wSurveySheet k v h a t P X so_0 le_0 ro_0) ss.heap.size)) (F0 mm 0 ls []) := by
    intro H locs _ _ hP hS
    refine lv_aload_n hx hb dX6_writeDifference_0 rfl (lv_at hl 3 rfl) ?_
    refine lv_iconst (v := 1) hx hb dX6_writeDifference_1 (by decide) ?_
    refine lv_iconst (v := 0) hx hb dX6_writeDifference_2 (by decide) ?_
    obtain ⟨so1001, le1002, ro1003, h1004, he⟩ := bn3_i he
    refine cVv (wf := (wSurveySheet k v h a t P X so1001 le1002 ro1003)) (As := [.int 1, .int 0]) (rest := []) ⟨hx, hb, hml, hown, hts⟩ hK hA hP hD hS (mX5_layOut l D k t (so_0 := so_0) (le_0 := le_0) (ro_0 := ro_0) h1004) (cwV 2 hts gX6_writeDifference_X5_layOut rfl rfl rfl kX5_layOut ⟨Nat.le_of_ble_eq_true rfl, Nat.le_of_ble_eq_true rfl⟩) [13, 14] rfl rfl rfl [true, true, true, true, true, true, true, true, true, true, true, true, true, false, false] ⟨rfl, rfl, rfl, rfl, rfl, rfl, rfl, rfl, rfl, rfl, rfl, rfl, rfl, trivial⟩ 15 rfl (by decide +kernel) rfl 0 rfl rfl rfl hl.1 rfl (Nat.le_of_ble_eq_true rfl) ⟨Nat.le_refl 0, Nat.le_refl 0⟩ dX6_writeDifference_3 (fun H locs hP hD hS => ?_)
    refine lv_iconst (v := 0) hx hb dX6_writeDifference_6 (by decide) ?_
    refine lv_istore (lv' := [(4, .int 0), (0, .ref v), (1, .int p1), (2, .int p2), (3, .ref (t 0))]) hx hb dX6_writeDifference_7 hl (by decide) rfl (fun ls hl => ?_)
    exact B9 600 p1 p2 0 so1001 le1002 ro1003 he H locs hP hD hS ls (lv_sub hl [1, 2, 3, 4, 0] rfl)
  exact key ss.heap [] rfl rfl hP hS
