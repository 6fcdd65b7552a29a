theorem kX3_nextFace : yX3_nextFace.cls = RX3 ∧ yX3_nextFace.cls ≠ "java/lang/invoke/MethodHandle" ∧ yX3_nextFace.cls ≠ "java/lang/invoke/VarHandle" ∧ (parseMethodDescriptor yX3_nextFace.desc).map (fun d => d.parameters.length) = some 0 := by decide +kernel
set_option maxRecDepth 100000 in
set_option maxHeartbeats 4000000 in
theorem mX3_nextFace (l : Launch) (D : va_G) (k : Nat → ClassId) (o : Nat) (b : Nat) (a : Nat → Nat) {P : Nat → Nat → Int32} {z_0 : Int32}  {r : Int32} {z' : Int32} (he : xX3_nextFace z_0 = some (r, z')) : CtI l D k yX3_nextFace wsX3_nextFace ({ frames := 0, cells := 0, slots := 0, locals := 0 } : Room) [.ref o] (wLot k o b a P z_0) r (wLot k o b a P z') := by
  intro sz9
  refine cSt (lv := [(0, .ref o)]) (own := RX3) (cc := cX3_nextFace) (nL := 1) (ret := (some .int)) (by decide +kernel) rfl rfl (Nat.le_of_ble_eq_true rfl) rfl ?_
  intro pp ee ss mm bl me co hsz hC0 hP hD hS ls hl
  subst hsz
  obtain ⟨hx, hb, hr, hml, hown, hts, hK, hlk⟩ := hC0
  have hA : ∀ q, ss.heap.size ≤ q → va_A (wLot k o b a P z_0) ss.heap.size q := fun q h => Or.inr h
  have iX3 : ∀ w ∈ wsX30, w ∈ wsX3_nextFace := fun _ h => List.mem_cons_of_mem _ (List.mem_append_right _ h)
  have w1 := hts (.fieldLink RX3 15 "DeadListPool$Lot" "z" "I") (List.mem_of_getElem? (i := 1) rfl)
  have w2 := hts (.constant RX3 27 (1103515245)) (List.mem_of_getElem? (i := 2) rfl)
  have hS0 := hS
  have key : ∀ (H : Heap) (locs : List Loc), H = ss.heap → locs = [] → va_P D vwCl (wLot k o b a P z_0) H → va_S (va_A (wLot k o b a P z_0) ss.heap.size) ss.heap H locs → W pp l ee ({ frames := 0, cells := 0, slots := 0, locals := 0 } : Room) ss mm ([.ref o] : List Value).toArray bl me co H locs 0 0 (MQ bl (cQi D k (wLot k o b a P z_0) ss.heap.size r (wLot k o b a P z')) ([.ref o] : List Value).toArray ss 0 0 (va_A (wLot k o b a P z_0) ss.heap.size)) (F0 mm 0 ls []) := by
    intro H locs _ _ hP hS
    refine lv_aload_n hx hb dX3_nextFace_0 rfl (lv_at hl 0 rfl) ?_
    refine lv_aload_n hx hb dX3_nextFace_1 rfl (lv_at hl 0 rfl) ?_
    refine va_get (D := D) (ci := 3) (v := .int z_0) (C := RX3) (T := TX3) (N := 2) hx hb hts iX3 hown hK hP 0 rfl rfl 1 (by decide) w1 (fun _ h9 => h9) rfl dX3_nextFace_2 ?_
    refine lv_ldc hx hb hown w2 dX3_nextFace_5 ?_
    refine lv_imul hx hb dX3_nextFace_7 ?_
    refine lv_sipush (v := 12345) hx hb dX3_nextFace_8 (by decide) ?_
    refine lv_iadd hx hb dX3_nextFace_11 ?_
    obtain ⟨z1001, e1002, he⟩ := lt_i he
    refine va_put (D := D) (ci := 3) (v := .int ((z_0 * 1103515245) + 12345)) (ty := .int) (C := RX3) (T := TX3) (N := 2) hx hb hts iX3 tyX3 tyX3_ok nmX3 hown hK hP hD hS 0 rfl rfl 1 (by decide) w1 (fun _ h9 => h9) rfl (by decide +kernel) rfl rfl (Nat.le_of_ble_eq_true rfl) dX3_nextFace_12 (fun H locs hP hD hS => ?_)
    have hP : va_P D vwCl (wLot k o b a P z1001) H := by rw [e1002]; exact hP
    have hD : va_D _ (wLot k o b a P z1001) := va_D_adr (by rw [e1002]; rfl) hD
    refine lv_aload_n hx hb dX3_nextFace_15 rfl (lv_at hl 0 rfl) ?_
    refine va_get (D := D) (ci := 3) (v := .int z1001) (C := RX3) (T := TX3) (N := 2) hx hb hts iX3 hown hK hP 0 rfl rfl 1 (by decide) w1 (fun _ h9 => h9) rfl dX3_nextFace_16 ?_
    refine lv_bipush (v := 9) hx hb dX3_nextFace_19 (by decide) ?_
    refine lv_iushr (v := ((Int32.toUInt32 z1001 >>> (Int32.toUInt32 9 &&& Int32.toUInt32 31)).toInt32)) hx hb dX3_nextFace_21 rfl ?_
    refine lv_bipush (v := 24) hx hb dX3_nextFace_22 (by decide) ?_
    refine lv_irem hx hb dX3_nextFace_24 (by decide) ?_
    obtain ⟨rfl, rfl⟩ := some2 he
    exact cRi hx hb hr hlk hK rfl hP hD hS dX3_nextFace_25
  exact key ss.heap [] rfl rfl hP hS
theorem kX3_act : yX3_act.cls = RX3 ∧ yX3_act.cls ≠ "java/lang/invoke/MethodHandle" ∧ yX3_act.cls ≠ "java/lang/invoke/VarHandle" ∧ (parseMethodDescriptor yX3_act.desc).map (fun d => d.parameters.length) = some 3 := by decide +kernel
set_option maxRecDepth 100000 in
set_option maxHeartbeats 4000000 in
theorem mX3_act (l : Launch) (D : va_G) (k : Nat → ClassId) (o : Nat) (b : Nat) (a : Nat → Nat) {P_0 : Nat → Nat → Int32} {z : Int32} {p1 : Int32} {p2 : Int32} {p3 : Int32} {P' : Nat → Nat → Int32} (he : xX3_act P_0 p1 p2 p3 = some P') : CtV l D k yX3_act wsX3_act ({ frames := 4, cells := 0, slots := 0, locals := 97 } : Room) [.ref o, .int p1, .int p2, .int p3] (wLot k o b a P_0 z) (wLot k o b a P' z) := by
  intro sz9
  refine cSt (lv := [(0, .ref o), (1, .int p1), (2, .int p2), (3, .int p3)]) (own := RX3) (cc := cX3_act) (nL := 5) (ret := none) (by decide +kernel) rfl rfl (Nat.le_of_ble_eq_true rfl) rfl ?_
  intro pp ee ss mm bl me co hsz hC0 hP hD hS ls hl
  subst hsz
  obtain ⟨hx, hb, hr, hml, hown, hts, hK, hlk⟩ := hC0
  have hA : ∀ q, ss.heap.size ≤ q → va_A (wLot k o b a P_0 z) ss.heap.size q := fun q h => Or.inr h
  have iX3 : ∀ w ∈ wsX30, w ∈ wsX3_act := fun _ h => List.mem_cons_of_mem _ (List.mem_append_left _ (List.mem_append_left _ (List.mem_append_right _ h)))
  have w1 := hts (.fieldLink RX3 9 "DeadListPool$Lot" "acts" "LDeadListPool$Acts;") (List.mem_of_getElem? (i := 1) rfl)
  have hS0 := hS
  have key : ∀ (H : Heap) (locs : List Loc), H = ss.heap → locs = [] → va_P D vwCl (wLot k o b a P_0 z) H → va_S (va_A (wLot k o b a P_0 z) ss.heap.size) ss.heap H locs → W pp l ee ({ frames := 4, cells := 0, slots := 0, locals := 97 } : Room) ss mm ([.ref o, .int p1, .int p2, .int p3] : List Value).toArray bl me co H locs 0 0 (MQ bl (cQv D k (wLot k o b a P_0 z) ss.heap.size (wLot k o b a P' z)) ([.ref o, .int p1, .int p2, .int p3] : List Value).toArray ss 0 0 (va_A (wLot k o b a P_0 z) ss.heap.size)) (F0 mm 0 ls []) := by
    intro H locs _ _ hP hS
    refine lv_iload_n hx hb dX3_act_0 rfl (lv_at hl 2 rfl) ?_
    refine lv_bipush (v := 20) hx hb dX3_act_1 (by decide) ?_
    refine lv_irem hx hb dX3_act_3 (by decide) ?_
    refine lv_istore (lv' := [(4, .int (p2 - p2 / 20 * 20)), (0, .ref o), (1, .int p1), (2, .int p2), (3, .int p3)]) hx hb dX3_act_4 hl (by decide) rfl (fun ls hl => ?_)
    refine lv_iload_n hx hb dX3_act_6 rfl (lv_at hl 2 rfl) ?_
    refine lv_bipush (v := 7) hx hb dX3_act_7 (by decide) ?_
    refine lv_icmp_gt (tgt := 32) hx hb dX3_act_9 (by decide) (fun c1001 => ?_) (fun c1001 => ?_)
    · have he := ifp he c1001
      refine lv_iload_n hx hb dX3_act_32 rfl (lv_at hl 2 rfl) ?_
      refine lv_bipush (v := 10) hx hb dX3_act_33 (by decide) ?_
      refine lv_icmp_gt (tgt := 55) hx hb dX3_act_35 (by decide) (fun c1002 => ?_) (fun c1002 => ?_)
      · have he := ifp he c1002
        refine lv_iload_n hx hb dX3_act_55 rfl (lv_at hl 2 rfl) ?_
        refine lv_bipush (v := 14) hx hb dX3_act_56 (by decide) ?_
        refine lv_icmp_gt (tgt := 78) hx hb dX3_act_58 (by decide) (fun c1003 => ?_) (fun c1003 => ?_)
        · have he := ifp he c1003
          refine lv_iload_n hx hb dX3_act_78 rfl (lv_at hl 2 rfl) ?_
          refine lv_bipush (v := 18) hx hb dX3_act_79 (by decide) ?_
          refine lv_icmp_gt (tgt := 97) hx hb dX3_act_81 (by decide) (fun c1004 => ?_) (fun c1004 => ?_)
          · have he := ifp he c1004
            refine lv_iload_n hx hb dX3_act_97 rfl (lv_at hl 2 rfl) ?_
            refine lv_bipush (v := 20) hx hb dX3_act_98 (by decide) ?_
            refine lv_icmp_gt (tgt := 116) hx hb dX3_act_100 (by decide) (fun c1005 => ?_) (fun c1005 => ?_)
            · have he := ifp he c1005
              refine lv_iload_n hx hb dX3_act_116 rfl (lv_at hl 2 rfl) ?_
              refine lv_bipush (v := 21) hx hb dX3_act_117 (by decide) ?_
              refine lv_icmp_ne (tgt := 135) hx hb dX3_act_119 (by decide) (fun c1006 => ?_) (fun c1006 => ?_)
              · have he := ifn he c1006
                refine lv_iload_n hx hb dX3_act_135 rfl (lv_at hl 2 rfl) ?_
                refine lv_bipush (v := 22) hx hb dX3_act_136 (by decide) ?_
                refine lv_icmp_ne (tgt := 154) hx hb dX3_act_138 (by decide) (fun c1007 => ?_) (fun c1007 => ?_)
                · have he := ifn he c1007
                  refine lv_aload_n hx hb dX3_act_154 rfl (lv_at hl 1 rfl) ?_
                  refine va_get (D := D) (ci := 3) (v := .ref b) (C := RX3) (T := TX3) (N := 2) hx hb hts iX3 hown hK hP 0 rfl rfl 0 (by decide) w1 (fun _ h9 => h9) rfl dX3_act_155 ?_
                  refine lv_iconst (v := (-1)) hx hb dX3_act_158 (by decide) ?_
                  obtain ⟨v1008, P1009, h1010, he⟩ := bn2_i he
                  refine cVi (wf := (wLot k o b a P1009 z)) (As := [.int (-1)]) (rest := []) ⟨hx, hb, hml, hown, hts⟩ hK hA hP hD hS (mX0_addFiles l D k b a (P_0 := P_0) h1010) (cwV 1 hts gX3_act_X0_addFiles rfl rfl rfl kX0_addFiles ⟨Nat.le_of_ble_eq_true rfl, Nat.le_of_ble_eq_true rfl⟩) [1, 2, 3, 4, 5, 6, 7, 8, 9, 10, 11] rfl rfl rfl [true, false, false, false, false, false, false, false, false, false, false, false] ⟨rfl, trivial⟩ 12 rfl (by decide +kernel) rfl 0 rfl rfl rfl hl.1 rfl (Nat.le_of_ble_eq_true rfl) ⟨Nat.le_refl 0, Nat.le_refl 0⟩ dX3_act_159 (fun H locs hP hD hS => ?_)
                  refine lv_pop hx hb dX3_act_162 rfl ?_
                  obtain rfl := some1 he
                  exact cRv hx hb hr hlk hK hP hD hS dX3_act_163
                · have he := ifp he c1007
                  refine lv_aload_n hx hb dX3_act_141 rfl (lv_at hl 1 rfl) ?_
                  refine va_get (D := D) (ci := 3) (v := .ref b) (C := RX3) (T := TX3) (N := 2) hx hb hts iX3 hown hK hP 0 rfl rfl 0 (by decide) w1 (fun _ h9 => h9) rfl dX3_act_142 ?_
                  refine lv_iload hx hb dX3_act_145 (lv_at hl 0 rfl) ?_
                  obtain ⟨v1011, P1012, h1013, he⟩ := bn2_i he
                  refine cVi (wf := (wLot k o b a P1012 z)) (As := [.int (p2 - p2 / 20 * 20)]) (rest := []) ⟨hx, hb, hml, hown, hts⟩ hK hA hP hD hS (mX0_rollFilesBack l D k b a (P_0 := P_0) h1013) (cwV 1 hts gX3_act_X0_rollFilesBack rfl rfl rfl kX0_rollFilesBack ⟨Nat.le_of_ble_eq_true rfl, Nat.le_of_ble_eq_true rfl⟩) [1, 2, 3, 4, 5, 6, 7, 8, 9, 10, 11] rfl rfl rfl [true, false, false, false, false, false, false, false, false, false, false, false] ⟨rfl, trivial⟩ 12 rfl (by decide +kernel) rfl 0 rfl rfl rfl hl.1 rfl (Nat.le_of_ble_eq_true rfl) ⟨Nat.le_refl 0, Nat.le_refl 0⟩ dX3_act_147 (fun H locs hP hD hS => ?_)
                  refine lv_pop hx hb dX3_act_150 rfl ?_
                  refine lv_goto (tgt := 163) hx hb dX3_act_151 (by decide) ?_
                  obtain rfl := some1 he
                  exact cRv hx hb hr hlk hK hP hD hS dX3_act_163
              · have he := ifp he c1006
                refine lv_aload_n hx hb dX3_act_122 rfl (lv_at hl 1 rfl) ?_
                refine va_get (D := D) (ci := 3) (v := .ref b) (C := RX3) (T := TX3) (N := 2) hx hb hts iX3 hown hK hP 0 rfl rfl 0 (by decide) w1 (fun _ h9 => h9) rfl dX3_act_123 ?_
                refine lv_iload hx hb dX3_act_126 (lv_at hl 0 rfl) ?_
                obtain ⟨v1014, P1015, h1016, he⟩ := bn2_i he
                refine cVi (wf := (wLot k o b a P1015 z)) (As := [.int (p2 - p2 / 20 * 20)]) (rest := []) ⟨hx, hb, hml, hown, hts⟩ hK hA hP hD hS (mX0_promoteFiles l D k b a (P_0 := P_0) h1016) (cwV 1 hts gX3_act_X0_promoteFiles rfl rfl rfl kX0_promoteFiles ⟨Nat.le_of_ble_eq_true rfl, Nat.le_of_ble_eq_true rfl⟩) [1, 2, 3, 4, 5, 6, 7, 8, 9, 10, 11] rfl rfl rfl [true, false, false, false, false, false, false, false, false, false, false, false] ⟨rfl, trivial⟩ 12 rfl (by decide +kernel) rfl 0 rfl rfl rfl hl.1 rfl (Nat.le_of_ble_eq_true rfl) ⟨Nat.le_refl 0, Nat.le_refl 0⟩ dX3_act_128 (fun H locs hP hD hS => ?_)
                refine lv_pop hx hb dX3_act_131 rfl ?_
                refine lv_goto (tgt := 163) hx hb dX3_act_132 (by decide) ?_
                obtain rfl := some1 he
                exact cRv hx hb hr hlk hK hP hD hS dX3_act_163
            · have he := ifn he c1005
              refine lv_aload_n hx hb dX3_act_103 rfl (lv_at hl 1 rfl) ?_
              refine va_get (D := D) (ci := 3) (v := .ref b) (C := RX3) (T := TX3) (N := 2) hx hb hts iX3 hown hK hP 0 rfl rfl 0 (by decide) w1 (fun _ h9 => h9) rfl dX3_act_104 ?_
              refine lv_iload hx hb dX3_act_107 (lv_at hl 0 rfl) ?_
              obtain ⟨v1017, P1018, h1019, he⟩ := bn2_i he
              refine cVi (wf := (wLot k o b a P1018 z)) (As := [.int (p2 - p2 / 20 * 20)]) (rest := []) ⟨hx, hb, hml, hown, hts⟩ hK hA hP hD hS (mX0_addFork l D k b a (P_0 := P_0) h1019) (cwV 1 hts gX3_act_X0_addFork rfl rfl rfl kX0_addFork ⟨Nat.le_of_ble_eq_true rfl, Nat.le_of_ble_eq_true rfl⟩) [1, 2, 3, 4, 5, 6, 7, 8, 9, 10, 11] rfl rfl rfl [true, false, false, false, false, false, false, false, false, false, false, false] ⟨rfl, trivial⟩ 12 rfl (by decide +kernel) rfl 0 rfl rfl rfl hl.1 rfl (Nat.le_of_ble_eq_true rfl) ⟨Nat.le_refl 0, Nat.le_refl 0⟩ dX3_act_109 (fun H locs hP hD hS => ?_)
              refine lv_pop hx hb dX3_act_112 rfl ?_
              refine lv_goto (tgt := 163) hx hb dX3_act_113 (by decide) ?_
              obtain rfl := some1 he
              exact cRv hx hb hr hlk hK hP hD hS dX3_act_163
          · have he := ifn he c1004
            refine lv_aload_n hx hb dX3_act_84 rfl (lv_at hl 1 rfl) ?_
            refine va_get (D := D) (ci := 3) (v := .ref b) (C := RX3) (T := TX3) (N := 2) hx hb hts iX3 hown hK hP 0 rfl rfl 0 (by decide) w1 (fun _ h9 => h9) rfl dX3_act_85 ?_
            refine lv_iload hx hb dX3_act_88 (lv_at hl 0 rfl) ?_
            obtain ⟨v1020, P1021, h1022, he⟩ := bn2_i he
            refine cVi (wf := (wLot k o b a P1021 z)) (As := [.int (p2 - p2 / 20 * 20)]) (rest := []) ⟨hx, hb, hml, hown, hts⟩ hK hA hP hD hS (mX0_removeThing l D k b a (P_0 := P_0) h1022) (cwV 1 hts gX3_act_X0_removeThing rfl rfl rfl kX0_removeThing ⟨Nat.le_of_ble_eq_true rfl, Nat.le_of_ble_eq_true rfl⟩) [1, 2, 3, 4, 5, 6, 7, 8, 9, 10, 11] rfl rfl rfl [true, false, false, false, false, false, false, false, false, false, false, false] ⟨rfl, trivial⟩ 12 rfl (by decide +kernel) rfl 0 rfl rfl rfl hl.1 rfl (Nat.le_of_ble_eq_true rfl) ⟨Nat.le_refl 0, Nat.le_refl 0⟩ dX3_act_90 (fun H locs hP hD hS => ?_)
            refine lv_pop hx hb dX3_act_93 rfl ?_
            refine lv_goto (tgt := 163) hx hb dX3_act_94 (by decide) ?_
            obtain rfl := some1 he
            exact cRv hx hb hr hlk hK hP hD hS dX3_act_163
        · have he := ifn he c1003
          refine lv_aload_n hx hb dX3_act_61 rfl (lv_at hl 1 rfl) ?_
          refine va_get (D := D) (ci := 3) (v := .ref b) (C := RX3) (T := TX3) (N := 2) hx hb hts iX3 hown hK hP 0 rfl rfl 0 (by decide) w1 (fun _ h9 => h9) rfl dX3_act_62 ?_
          refine lv_iload hx hb dX3_act_65 (lv_at hl 0 rfl) ?_
          refine lv_iload_n hx hb dX3_act_67 rfl (lv_at hl 4 rfl) ?_
          refine lv_bipush (v := 20) hx hb dX3_act_68 (by decide) ?_
          refine lv_idiv hx hb dX3_act_70 (by decide) ?_
          obtain ⟨v1023, P1024, h1025, he⟩ := bn2_i he
          refine cVi (wf := (wLot k o b a P1024 z)) (As := [.int (p2 - p2 / 20 * 20), .int (p3 / 20)]) (rest := []) ⟨hx, hb, hml, hown, hts⟩ hK hA hP hD hS (mX0_addSnapshot l D k b a (P_0 := P_0) h1025) (cwV 2 hts gX3_act_X0_addSnapshot rfl rfl rfl kX0_addSnapshot ⟨Nat.le_of_ble_eq_true rfl, Nat.le_of_ble_eq_true rfl⟩) [1, 2, 3, 4, 5, 6, 7, 8, 9, 10, 11] rfl rfl rfl [true, false, false, false, false, false, false, false, false, false, false, false] ⟨rfl, trivial⟩ 12 rfl (by decide +kernel) rfl 0 rfl rfl rfl hl.1 rfl (Nat.le_of_ble_eq_true rfl) ⟨Nat.le_refl 0, Nat.le_refl 0⟩ dX3_act_71 (fun H locs hP hD hS => ?_)
          refine lv_pop hx hb dX3_act_74 rfl ?_
          refine lv_goto (tgt := 163) hx hb dX3_act_75 (by decide) ?_
          obtain rfl := some1 he
          exact cRv hx hb hr hlk hK hP hD hS dX3_act_163
      · have he := ifn he c1002
        refine lv_aload_n hx hb dX3_act_38 rfl (lv_at hl 1 rfl) ?_
        refine va_get (D := D) (ci := 3) (v := .ref b) (C := RX3) (T := TX3) (N := 2) hx hb hts iX3 hown hK hP 0 rfl rfl 0 (by decide) w1 (fun _ h9 => h9) rfl dX3_act_39 ?_
        refine lv_iload hx hb dX3_act_42 (lv_at hl 0 rfl) ?_
        refine lv_iload_n hx hb dX3_act_44 rfl (lv_at hl 4 rfl) ?_
        refine lv_bipush (v := 12) hx hb dX3_act_45 (by decide) ?_
        refine lv_irem hx hb dX3_act_47 (by decide) ?_
        obtain ⟨v1026, P1027, h1028, he⟩ := bn2_i he
        refine cVi (wf := (wLot k o b a P1027 z)) (As := [.int (p2 - p2 / 20 * 20), .int (p3 - p3 / 12 * 12)]) (rest := []) ⟨hx, hb, hml, hown, hts⟩ hK hA hP hD hS (mX0_eraseSlot l D k b a (P_0 := P_0) h1028) (cwV 2 hts gX3_act_X0_eraseSlot rfl rfl rfl kX0_eraseSlot ⟨Nat.le_of_ble_eq_true rfl, Nat.le_of_ble_eq_true rfl⟩) [1, 2, 3, 4, 5, 6, 7, 8, 9, 10, 11] rfl rfl rfl [true, false, false, false, false, false, false, false, false, false, false, false] ⟨rfl, trivial⟩ 12 rfl (by decide +kernel) rfl 0 rfl rfl rfl hl.1 rfl (Nat.le_of_ble_eq_true rfl) ⟨Nat.le_refl 0, Nat.le_refl 0⟩ dX3_act_48 (fun H locs hP hD hS => ?_)
        refine lv_pop hx hb dX3_act_51 rfl ?_
        refine lv_goto (tgt := 163) hx hb dX3_act_52 (by decide) ?_
        obtain rfl := some1 he
        exact cRv hx hb hr hlk hK hP hD hS dX3_act_163
    · have he := ifn he c1001
      refine lv_aload_n hx hb dX3_act_12 rfl (lv_at hl 1 rfl) ?_
      refine va_get (D := D) (ci := 3) (v := .ref b) (C := RX3) (T := TX3) (N := 2) hx hb hts iX3 hown hK hP 0 rfl rfl 0 (by decide) w1 (fun _ h9 => h9) rfl dX3_act_13 ?_
      refine lv_iload hx hb dX3_act_16 (lv_at hl 0 rfl) ?_
      refine lv_iload_n hx hb dX3_act_18 rfl (lv_at hl 4 rfl) ?_
      refine lv_bipush (v := 12) hx hb dX3_act_19 (by decide) ?_
      refine lv_irem hx hb dX3_act_21 (by decide) ?_
      refine lv_iconst (v := 1) hx hb dX3_act_22 (by decide) ?_
      refine lv_iload_n hx hb dX3_act_23 rfl (lv_at hl 3 rfl) ?_
      refine lv_iadd hx hb dX3_act_24 ?_
      obtain ⟨v1029, P1030, h1031, he⟩ := bn2_i he
      refine cVi (wf := (wLot k o b a P1030 z)) (As := [.int (p2 - p2 / 20 * 20), .int (p3 - p3 / 12 * 12), .int (1 + p2)]) (rest := []) ⟨hx, hb, hml, hown, hts⟩ hK hA hP hD hS (mX0_writeSlot l D k b a (P_0 := P_0) h1031) (cwV 3 hts gX3_act_X0_writeSlot rfl rfl rfl kX0_writeSlot ⟨Nat.le_of_ble_eq_true rfl, Nat.le_of_ble_eq_true rfl⟩) [1, 2, 3, 4, 5, 6, 7, 8, 9, 10, 11] rfl rfl rfl [true, false, false, false, false, false, false, false, false, false, false, false] ⟨rfl, trivial⟩ 12 rfl (by decide +kernel) rfl 0 rfl rfl rfl hl.1 rfl (Nat.le_of_ble_eq_true rfl) ⟨Nat.le_refl 0, Nat.le_refl 0⟩ dX3_act_25 (fun H locs hP hD hS => ?_)
      refine lv_pop hx hb dX3_act_28 rfl ?_
      refine lv_goto (tgt := 163) hx hb dX3_act_29 (by decide) ?_
      obtain rfl := some1 he
      exact cRv hx hb hr hlk hK hP hD hS dX3_act_163
  exact key ss.heap [] rfl rfl hP hS
theorem kX3_play : yX3_play.cls = RX3 ∧ yX3_play.cls ≠ "java/lang/invoke/MethodHandle" ∧ yX3_play.cls ≠ "java/lang/invoke/VarHandle" ∧ (parseMethodDescriptor yX3_play.desc).map (fun d => d.parameters.length) = some 2 := by decide +kernel
set_option maxRecDepth 100000 in
set_option maxHeartbeats 4000000 in
theorem mX3_play (l : Launch) (D : va_G) (k : Nat → ClassId) (o : Nat) (b : Nat) (a : Nat → Nat) {P_0 : Nat → Nat → Int32} {z_0 : Int32} {p1 : Int32} {p2 : Int32} {P' : Nat → Nat → Int32} {z' : Int32} (he : xX3_play P_0 z_0 p1 p2 = some (P', z')) : CtV l D k yX3_play wsX3_play ({ frames := 5, cells := 0, slots := 0, locals := 121 } : Room) [.ref o, .int p1, .int p2] (wLot k o b a P_0 z_0) (wLot k o b a P' z') := by
  intro sz9
  refine cSt (lv := [(0, .ref o), (1, .int p1), (2, .int p2)]) (own := RX3) (cc := cX3_play) (nL := 7) (ret := none) (by decide +kernel) rfl rfl (Nat.le_of_ble_eq_true rfl) rfl ?_
  intro pp ee ss mm bl me co hsz hC0 hP hD hS ls hl
  subst hsz
  obtain ⟨hx, hb, hr, hml, hown, hts, hK, hlk⟩ := hC0
  have hA : ∀ q, ss.heap.size ≤ q → va_A (wLot k o b a P_0 z_0) ss.heap.size q := fun q h => Or.inr h
  have iX3 : ∀ w ∈ wsX30, w ∈ wsX3_play := fun _ h => List.mem_cons_of_mem _ (List.mem_append_left _ (List.mem_append_left _ (List.mem_append_right _ h)))
  have w1 := hts (.fieldLink RX3 15 "DeadListPool$Lot" "z" "I") (List.mem_of_getElem? (i := 1) rfl)
  have B7 : ∀ (n7 : Nat) (x2 : Int32) (x3 : Int32) (P : Nat → Nat → Int32) (z : Int32), xX3_play_7 n7 x2 x3 P z = some (P', z') → ∀ (H : Heap) (locs : List Loc), va_P D vwCl (wLot k o b a P z) H → va_D (va_A (wLot k o b a P_0 z_0) ss.heap.size) (wLot k o b a P z) → va_S (va_A (wLot k o b a P_0 z_0) ss.heap.size) ss.heap H locs → ∀ ls : Array Slot, lv_has ls 7 [(0, .ref o), (2, .int x2), (3, .int x3)] → W pp l ee ({ frames := 5, cells := 0, slots := 0, locals := 121 } : Room) ss mm ([.ref o, .int p1, .int p2] : List Value).toArray bl me co H locs 0 0 (MQ bl (cQv D k (wLot k o b a P_0 z_0) ss.heap.size (wLot k o b a P' z')) ([.ref o, .int p1, .int p2] : List Value).toArray ss 0 0 (va_A (wLot k o b a P_0 z_0) ss.heap.size)) (F0 mm 7 ls []) := by
    intro n7
    induction n7 with
    | zero =>
      intro x2 x3 P z he
      exact absurd (show (none : Option ((Nat → Nat → Int32) × Int32)) = some (P', z') from he) (by simp)
    | succ n7 ih7 =>
      intro x2 x3 P z he H locs hP hD hS ls hl
      refine lv_iload_n hx hb dX3_play_7 rfl (lv_at hl 2 rfl) ?_
      refine lv_iload_n hx hb dX3_play_8 rfl (lv_at hl 1 rfl) ?_
      refine lv_icmp_ge (tgt := 46) hx hb dX3_play_9 (by decide) (fun c1 => ?_) (fun c1 => ?_)
      · have he := ifp he c1
        obtain ⟨rfl, rfl⟩ := some2 he
        exact cRv hx hb hr hlk hK hP hD hS dX3_play_46
      · have he := ifn he c1
        refine lv_aload_n hx hb dX3_play_12 rfl (lv_at hl 0 rfl) ?_
        obtain ⟨v2, z3, h4, he⟩ := bn2_i he
        refine cVi (wf := (wLot k o b a P z3)) (As := []) (rest := []) ⟨hx, hb, hml, hown, hts⟩ hK hA hP hD hS (mX3_nextFace l D k o b a (P := P) (z_0 := z) h4) (cwV 0 hts gX3_play_X3_nextFace rfl rfl rfl kX3_nextFace ⟨Nat.le_of_ble_eq_true rfl, Nat.le_of_ble_eq_true rfl⟩) [0, 1, 2, 3, 4, 5, 6, 7, 8, 9, 10, 11] rfl rfl rfl [false, false, false, false, false, false, false, false, false, false, false, false] trivial 12 rfl (by decide +kernel) rfl 0 rfl rfl rfl hl.1 rfl (Nat.le_of_ble_eq_true rfl) ⟨Nat.le_refl 0, Nat.le_refl 0⟩ dX3_play_13 (fun H locs hP hD hS => ?_)
        refine lv_istore (lv' := [(4, .int v2), (0, .ref o), (2, .int x2), (3, .int x3)]) hx hb dX3_play_16 hl (by decide) rfl (fun ls hl => ?_)
        refine lv_aload_n hx hb dX3_play_18 rfl (lv_at hl 1 rfl) ?_
        obtain ⟨v5, z6, h7, he⟩ := bn2_i he
        refine cVi (wf := (wLot k o b a P z6)) (As := []) (rest := []) ⟨hx, hb, hml, hown, hts⟩ hK hA hP hD hS (mX3_nextFace l D k o b a (P := P) (z_0 := z3) h7) (cwV 0 hts gX3_play_X3_nextFace rfl rfl rfl kX3_nextFace ⟨Nat.le_of_ble_eq_true rfl, Nat.le_of_ble_eq_true rfl⟩) [0, 1, 2, 3, 4, 5, 6, 7, 8, 9, 10, 11] rfl rfl rfl [false, false, false, false, false, false, false, false, false, false, false, false] trivial 12 rfl (by decide +kernel) rfl 0 rfl rfl rfl hl.1 rfl (Nat.le_of_ble_eq_true rfl) ⟨Nat.le_refl 0, Nat.le_refl 0⟩ dX3_play_19 (fun H locs hP hD hS => ?_)
        refine lv_istore (lv' := [(5, .int v5), (4, .int v2), (0, .ref o), (2, .int x2), (3, .int x3)]) hx hb dX3_play_22 hl (by decide) rfl (fun ls hl => ?_)
        refine lv_aload_n hx hb dX3_play_24 rfl (lv_at hl 2 rfl) ?_
        obtain ⟨v8, z9, h10, he⟩ := bn2_i he
        refine cVi (wf := (wLot k o b a P z9)) (As := []) (rest := []) ⟨hx, hb, hml, hown, hts⟩ hK hA hP hD hS (mX3_nextFace l D k o b a (P := P) (z_0 := z6) h10) (cwV 0 hts gX3_play_X3_nextFace rfl rfl rfl kX3_nextFace ⟨Nat.le_of_ble_eq_true rfl, Nat.le_of_ble_eq_true rfl⟩) [0, 1, 2, 3, 4, 5, 6, 7, 8, 9, 10, 11] rfl rfl rfl [false, false, false, false, false, false, false, false, false, false, false, false] trivial 12 rfl (by decide +kernel) rfl 0 rfl rfl rfl hl.1 rfl (Nat.le_of_ble_eq_true rfl) ⟨Nat.le_refl 0, Nat.le_refl 0⟩ dX3_play_25 (fun H locs hP hD hS => ?_)
        refine lv_istore (lv' := [(6, .int v8), (5, .int v5), (4, .int v2), (0, .ref o), (2, .int x2), (3, .int x3)]) hx hb dX3_play_28 hl (by decide) rfl (fun ls hl => ?_)
        refine lv_aload_n hx hb dX3_play_30 rfl (lv_at hl 3 rfl) ?_
        refine lv_iload hx hb dX3_play_31 (lv_at hl 2 rfl) ?_
        refine lv_iload hx hb dX3_play_33 (lv_at hl 1 rfl) ?_
        refine lv_iload hx hb dX3_play_35 (lv_at hl 0 rfl) ?_
        obtain ⟨P11, h12, he⟩ := bn1_i he
        refine cVv (wf := (wLot k o b a P11 z9)) (As := [.int v2, .int v5, .int v8]) (rest := []) ⟨hx, hb, hml, hown, hts⟩ hK hA hP hD hS (mX3_act l D k o b a (P_0 := P) (z := z9) h12) (cwV 3 hts gX3_play_X3_act rfl rfl rfl kX3_act ⟨Nat.le_of_ble_eq_true rfl, Nat.le_of_ble_eq_true rfl⟩) [0, 1, 2, 3, 4, 5, 6, 7, 8, 9, 10, 11] rfl rfl rfl [false, false, false, false, false, false, false, false, false, false, false, false] trivial 12 rfl (by decide +kernel) rfl 0 rfl rfl rfl hl.1 rfl (Nat.le_of_ble_eq_true rfl) ⟨Nat.le_refl 0, Nat.le_refl 0⟩ dX3_play_37 (fun H locs hP hD hS => ?_)
        refine lv_iinc (v := (x3 + 1)) (lv' := [(3, .int (x3 + 1)), (6, .int v8), (5, .int v5), (4, .int v2), (0, .ref o), (2, .int x2)]) hx hb dX3_play_40 hl (k := 5) rfl rfl (by decide) rfl (fun ls hl => ?_)
        refine lv_goto (tgt := 7) hx hb dX3_play_43 (by decide) ?_
        exact ih7 x2 (x3 + 1) P11 z9 he H locs hP hD hS ls (lv_sub hl [4, 5, 0] rfl)
  have hS0 := hS
  have key : ∀ (H : Heap) (locs : List Loc), H = ss.heap → locs = [] → va_P D vwCl (wLot k o b a P_0 z_0) H → va_S (va_A (wLot k o b a P_0 z_0) ss.heap.size) ss.heap H locs → W pp l ee ({ frames := 5, cells := 0, slots := 0, locals := 121 } : Room) ss mm ([.ref o, .int p1, .int p2] : List Value).toArray bl me co H locs 0 0 (MQ bl (cQv D k (wLot k o b a P_0 z_0) ss.heap.size (wLot k o b a P' z')) ([.ref o, .int p1, .int p2] : List Value).toArray ss 0 0 (va_A (wLot k o b a P_0 z_0) ss.heap.size)) (F0 mm 0 ls []) := by
    intro H locs _ _ hP hS
    refine lv_aload_n hx hb dX3_play_0 rfl (lv_at hl 0 rfl) ?_
    refine lv_iload_n hx hb dX3_play_1 rfl (lv_at hl 1 rfl) ?_
    obtain ⟨z1001, e1002, he⟩ := lt_i he
    refine va_put (D := D) (ci := 3) (v := .int p1) (ty := .int) (C := RX3) (T := TX3) (N := 2) hx hb hts iX3 tyX3 tyX3_ok nmX3 hown hK hP hD hS 0 rfl rfl 1 (by decide) w1 (fun _ h9 => h9) rfl (by decide +kernel) rfl rfl (Nat.le_of_ble_eq_true rfl) dX3_play_2 (fun H locs hP hD hS => ?_)
    have hP : va_P D vwCl (wLot k o b a P_0 z1001) H := by rw [e1002]; exact hP
    have hD : va_D _ (wLot k o b a P_0 z1001) := va_D_adr (by rw [e1002]; rfl) hD
    refine lv_iconst (v := 0) hx hb dX3_play_5 (by decide) ?_
    refine lv_istore_n (lv' := [(3, .int 0), (0, .ref o), (1, .int p1), (2, .int p2)]) hx hb dX3_play_6 rfl hl (by decide) rfl (fun ls hl => ?_)
    exact B7 600 p2 0 P_0 z1001 he H locs hP hD hS ls (lv_sub hl [1, 3, 0] rfl)
  exact key ss.heap [] rfl rfl hP hS
