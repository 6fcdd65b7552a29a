theorem kX2_look : yX2_look.cls = RX2 ∧ yX2_look.cls ≠ "java/lang/invoke/MethodHandle" ∧ yX2_look.cls ≠ "java/lang/invoke/VarHandle" ∧ (parseMethodDescriptor yX2_look.desc).map (fun d => d.parameters.length) = some 0 := by decide +kernel
set_option maxRecDepth 100000 in
set_option maxHeartbeats 4000000 in
theorem mX2_look (l : Launch) (D : va_G) (k : Nat → ClassId) (h : Nat → Nat) (a : Nat → Nat) {P : Nat → Nat → Int32} {X_0 : Nat → Int32}  {X' : Nat → Int32} (he : xX2_look P X_0 = some X') : CtV l D k yX2_look wsX2_look ({ frames := 1, cells := 0, slots := 0, locals := 22 } : Room) [.ref (h 0)] (wHolders k h a P X_0) (wHolders k h a P X') := by
  intro sz9
  refine cSt (lv := [(0, .ref (h 0))]) (own := RX2) (cc := cX2_look) (nL := 4) (ret := none) (by decide +kernel) rfl rfl (Nat.le_of_ble_eq_true rfl) rfl ?_
  intro pp ee ss mm bl me co hsz hC0 hP hD hS ls hl
  subst hsz
  obtain ⟨hx, hb, hr, hml, hown, hts, hK, hlk⟩ := hC0
  have hA : ∀ q, ss.heap.size ≤ q → va_A (wHolders k h a P X_0) ss.heap.size q := fun q h => Or.inr h
  have iX2 : ∀ w ∈ wsX20, w ∈ wsX2_look := fun _ h => List.mem_cons_of_mem _ (List.mem_append_left _ (List.mem_append_right _ h))
  have w2 := hts (.fieldLink RX2 9 "DeadListPool$Holders" "pool" "LDeadListPool$Pool;") (List.mem_of_getElem? (i := 2) rfl)
  have w1 := hts (.fieldLink RX2 15 "DeadListPool$Holders" "sets" "[I") (List.mem_of_getElem? (i := 1) rfl)
  have B23 : ∀ (n23 : Nat) (x1 : Int32) (X : Nat → Int32), xX2_look_23 P n23 x1 X = some X' → ∀ (H : Heap) (locs : List Loc), va_P D vwCl (wHolders k h a P X) H → va_D (va_A (wHolders k h a P X_0) ss.heap.size) (wHolders k h a P X) → va_S (va_A (wHolders k h a P X_0) ss.heap.size) ss.heap H locs → ∀ ls : Array Slot, lv_has ls 4 [(0, .ref (h 0)), (1, .int x1)] → W pp l ee ({ frames := 1, cells := 0, slots := 0, locals := 22 } : Room) ss mm ([.ref (h 0)] : List Value).toArray bl me co H locs 0 0 (MQ bl (cQv D k (wHolders k h a P X_0) ss.heap.size (wHolders k h a P X')) ([.ref (h 0)] : List Value).toArray ss 0 0 (va_A (wHolders k h a P X_0) ss.heap.size)) (F0 mm 23 ls []) := by
    intro n23
    induction n23 with
    | zero =>
      intro x1 X he
      exact absurd (show (none : Option ((Nat → Int32))) = some X' from he) (by simp)
    | succ n23 ih23 =>
      have B31 : ∀ (n31 : Nat) (x1 : Int32) (x2 : Int32) (X : Nat → Int32), xX2_look_31 P (xX2_look_23 P n23) n31 x1 x2 X = some X' → ∀ (H : Heap) (locs : List Loc), va_P D vwCl (wHolders k h a P X) H → va_D (va_A (wHolders k h a P X_0) ss.heap.size) (wHolders k h a P X) → va_S (va_A (wHolders k h a P X_0) ss.heap.size) ss.heap H locs → ∀ ls : Array Slot, lv_has ls 4 [(0, .ref (h 0)), (1, .int x1), (2, .int x2)] → W pp l ee ({ frames := 1, cells := 0, slots := 0, locals := 22 } : Room) ss mm ([.ref (h 0)] : List Value).toArray bl me co H locs 0 0 (MQ bl (cQv D k (wHolders k h a P X_0) ss.heap.size (wHolders k h a P X')) ([.ref (h 0)] : List Value).toArray ss 0 0 (va_A (wHolders k h a P X_0) ss.heap.size)) (F0 mm 31 ls []) := by
        intro n31
        induction n31 with
        | zero =>
          intro x1 x2 X he
          exact absurd (show (none : Option ((Nat → Int32))) = some X' from he) (by simp)
        | succ n31 ih31 =>
          intro x1 x2 X he H locs hP hD hS ls hl
          refine lv_iload_n hx hb dX2_look_31 rfl (lv_at hl 2 rfl) ?_
          refine lv_bipush (v := 12) hx hb dX2_look_32 (by decide) ?_
          refine lv_icmp_ge (tgt := 75) hx hb dX2_look_34 (by decide) (fun c1 => ?_) (fun c1 => ?_)
          · have he := ifp he c1
            refine lv_iinc (v := (x1 + 1)) (lv' := [(1, .int (x1 + 1)), (0, .ref (h 0)), (2, .int x2)]) hx hb dX2_look_75 hl (k := 1) rfl rfl (by decide) rfl (fun ls hl => ?_)
            refine lv_goto (tgt := 23) hx hb dX2_look_78 (by decide) ?_
            exact ih23 (x1 + 1) X he H locs hP hD hS ls (lv_sub hl [1, 0] rfl)
          · have he := ifn he c1
            refine lv_aload_n hx hb dX2_look_37 rfl (lv_at hl 0 rfl) ?_
            refine va_get (D := D) (ci := 2) (v := .ref (a 0)) (C := RX2) (T := TX2) (N := 2) hx hb hts iX2 hown hK hP 0 rfl rfl 0 (by decide) w2 (fun _ h9 => h9) rfl dX2_look_38 ?_
            refine lv_iload_n hx hb dX2_look_41 rfl (lv_at hl 1 rfl) ?_
            refine lv_iload_n hx hb dX2_look_42 rfl (lv_at hl 2 rfl) ?_
            obtain ⟨v2, h3, he⟩ := bn1_i he
            refine cVir (As := [.int x1, .int x2]) (rest := []) ⟨hx, hb, hml, hown, hts⟩ hK hA hP hD hS (mX4_blockIn l D k a (P := P) h3) (cwV 2 hts gX2_look_X4_blockIn rfl rfl rfl kX4_blockIn ⟨Nat.le_of_ble_eq_true rfl, Nat.le_of_ble_eq_true rfl⟩) [2, 3, 4, 5, 6, 7, 8, 9, 10, 11] rfl rfl 0 rfl rfl rfl hl.1 rfl (Nat.le_of_ble_eq_true rfl) ⟨Nat.le_refl 0, Nat.le_refl 0⟩ dX2_look_43 (fun H locs hP hD hS => ?_)
            refine lv_istore_n (lv' := [(3, .int v2), (0, .ref (h 0)), (1, .int x1), (2, .int x2)]) hx hb dX2_look_46 rfl hl (by decide) rfl (fun ls hl => ?_)
            refine lv_iload_n hx hb dX2_look_47 rfl (lv_at hl 0 rfl) ?_
            refine lv_if_lt (tgt := 69) hx hb dX2_look_48 (by decide) (fun c4 => ?_) (fun c4 => ?_)
            · have he := ifp he c4
              refine lv_iinc (v := (x2 + 1)) (lv' := [(2, .int (x2 + 1)), (3, .int v2), (0, .ref (h 0)), (1, .int x1)]) hx hb dX2_look_69 hl (k := 3) rfl rfl (by decide) rfl (fun ls hl => ?_)
              refine lv_goto (tgt := 31) hx hb dX2_look_72 (by decide) ?_
              exact ih31 x1 (x2 + 1) X he H locs hP hD hS ls (lv_sub hl [2, 3, 0] rfl)
            · have he := ifn he c4
              refine lv_iload_n hx hb dX2_look_51 rfl (lv_at hl 0 rfl) ?_
              refine lv_bipush (v := 96) hx hb dX2_look_52 (by decide) ?_
              refine lv_icmp_ge (tgt := 69) hx hb dX2_look_54 (by decide) (fun c5 => ?_) (fun c5 => ?_)
              · have he := ifp he c5
                refine lv_iinc (v := (x2 + 1)) (lv' := [(2, .int (x2 + 1)), (3, .int v2), (0, .ref (h 0)), (1, .int x1)]) hx hb dX2_look_69 hl (k := 3) rfl rfl (by decide) rfl (fun ls hl => ?_)
                refine lv_goto (tgt := 31) hx hb dX2_look_72 (by decide) ?_
                exact ih31 x1 (x2 + 1) X he H locs hP hD hS ls (lv_sub hl [2, 3, 0] rfl)
              · have he := ifn he c5
                refine lv_aload_n hx hb dX2_look_57 rfl (lv_at hl 1 rfl) ?_
                refine va_get (D := D) (ci := 2) (v := .ref (h 1)) (C := RX2) (T := TX2) (N := 2) hx hb hts iX2 hown hK hP 0 rfl rfl 1 (by decide) w1 (fun _ h9 => h9) rfl dX2_look_58 ?_
                refine lv_iload_n hx hb dX2_look_61 rfl (lv_at hl 0 rfl) ?_
                refine lv_dup2_11 hx hb dX2_look_62 rfl rfl ?_
                obtain ⟨h6, he⟩ := grd_i he
                refine va_iald hx hb hK hP 1 0 rfl rfl (ix_in h6) dX2_look_63 ?_
                refine lv_iconst (v := 1) hx hb dX2_look_64 (by decide) ?_
                refine lv_iload_n hx hb dX2_look_65 rfl (lv_at hl 2 rfl) ?_
                refine lv_ishl hx hb dX2_look_66 ?_
                refine lv_ior hx hb dX2_look_67 ?_
                obtain ⟨h7, he⟩ := grd_i he
                obtain ⟨X8, e9, he⟩ := lt_i he
                refine va_iast hx hb hK hP hD hS 1 0 rfl rfl (ix_in h7) dX2_look_68 (fun H locs hP hD hS => ?_)
                have hP : va_P D vwCl (wHolders k h a P X8) H := by rw [e9]; exact hP
                have hD : va_D _ (wHolders k h a P X8) := va_D_adr (by rw [e9]; rfl) hD
                refine lv_iinc (v := (x2 + 1)) (lv' := [(2, .int (x2 + 1)), (3, .int v2), (0, .ref (h 0)), (1, .int x1)]) hx hb dX2_look_69 hl (k := 3) rfl rfl (by decide) rfl (fun ls hl => ?_)
                refine lv_goto (tgt := 31) hx hb dX2_look_72 (by decide) ?_
                exact ih31 x1 (x2 + 1) X8 he H locs hP hD hS ls (lv_sub hl [2, 3, 0] rfl)
      intro x1 X he H locs hP hD hS ls hl
      refine lv_iload_n hx hb dX2_look_23 rfl (lv_at hl 1 rfl) ?_
      refine lv_bipush (v := 20) hx hb dX2_look_24 (by decide) ?_
      refine lv_icmp_ge (tgt := 81) hx hb dX2_look_26 (by decide) (fun c10 => ?_) (fun c10 => ?_)
      · have he := ifp he c10
        obtain rfl := some1 he
        exact cRv hx hb hr hlk hK hP hD hS dX2_look_81
      · have he := ifn he c10
        refine lv_iconst (v := 0) hx hb dX2_look_29 (by decide) ?_
        refine lv_istore_n (lv' := [(2, .int 0), (0, .ref (h 0)), (1, .int x1)]) hx hb dX2_look_30 rfl hl (by decide) rfl (fun ls hl => ?_)
        exact B31 600 x1 0 X he H locs hP hD hS ls (lv_sub hl [1, 2, 0] rfl)
  have B2 : ∀ (n2 : Nat) (x1 : Int32) (X : Nat → Int32), xX2_look_2 P n2 x1 X = some X' → ∀ (H : Heap) (locs : List Loc), va_P D vwCl (wHolders k h a P X) H → va_D (va_A (wHolders k h a P X_0) ss.heap.size) (wHolders k h a P X) → va_S (va_A (wHolders k h a P X_0) ss.heap.size) ss.heap H locs → ∀ ls : Array Slot, lv_has ls 4 [(0, .ref (h 0)), (1, .int x1)] → W pp l ee ({ frames := 1, cells := 0, slots := 0, locals := 22 } : Room) ss mm ([.ref (h 0)] : List Value).toArray bl me co H locs 0 0 (MQ bl (cQv D k (wHolders k h a P X_0) ss.heap.size (wHolders k h a P X')) ([.ref (h 0)] : List Value).toArray ss 0 0 (va_A (wHolders k h a P X_0) ss.heap.size)) (F0 mm 2 ls []) := by
    intro n2
    induction n2 with
    | zero =>
      intro x1 X he
      exact absurd (show (none : Option ((Nat → Int32))) = some X' from he) (by simp)
    | succ n2 ih2 =>
      intro x1 X he H locs hP hD hS ls hl
      refine lv_iload_n hx hb dX2_look_2 rfl (lv_at hl 1 rfl) ?_
      refine lv_bipush (v := 96) hx hb dX2_look_3 (by decide) ?_
      refine lv_icmp_ge (tgt := 21) hx hb dX2_look_5 (by decide) (fun c11 => ?_) (fun c11 => ?_)
      · have he := ifp he c11
        refine lv_iconst (v := 0) hx hb dX2_look_21 (by decide) ?_
        refine lv_istore_n (lv' := [(1, .int 0), (0, .ref (h 0))]) hx hb dX2_look_22 rfl hl (by decide) rfl (fun ls hl => ?_)
        exact B23 600 0 X he H locs hP hD hS ls (lv_sub hl [1, 0] rfl)
      · have he := ifn he c11
        refine lv_aload_n hx hb dX2_look_8 rfl (lv_at hl 0 rfl) ?_
        refine va_get (D := D) (ci := 2) (v := .ref (h 1)) (C := RX2) (T := TX2) (N := 2) hx hb hts iX2 hown hK hP 0 rfl rfl 1 (by decide) w1 (fun _ h9 => h9) rfl dX2_look_9 ?_
        refine lv_iload_n hx hb dX2_look_12 rfl (lv_at hl 1 rfl) ?_
        refine lv_iconst (v := 0) hx hb dX2_look_13 (by decide) ?_
        obtain ⟨h12, he⟩ := grd_i he
        obtain ⟨X13, e14, he⟩ := lt_i he
        refine va_iast hx hb hK hP hD hS 1 0 rfl rfl (ix_in h12) dX2_look_14 (fun H locs hP hD hS => ?_)
        have hP : va_P D vwCl (wHolders k h a P X13) H := by rw [e14]; exact hP
        have hD : va_D _ (wHolders k h a P X13) := va_D_adr (by rw [e14]; rfl) hD
        refine lv_iinc (v := (x1 + 1)) (lv' := [(1, .int (x1 + 1)), (0, .ref (h 0))]) hx hb dX2_look_15 hl (k := 1) rfl rfl (by decide) rfl (fun ls hl => ?_)
        refine lv_goto (tgt := 2) hx hb dX2_look_18 (by decide) ?_
        exact ih2 (x1 + 1) X13 he H locs hP hD hS ls (lv_sub hl [1, 0] rfl)
  have hS0 := hS
  have key : ∀ (H : Heap) (locs : List Loc), H = ss.heap → locs = [] → va_P D vwCl (wHolders k h a P X_0) H → va_S (va_A (wHolders k h a P X_0) ss.heap.size) ss.heap H locs → W pp l ee ({ frames := 1, cells := 0, slots := 0, locals := 22 } : Room) ss mm ([.ref (h 0)] : List Value).toArray bl me co H locs 0 0 (MQ bl (cQv D k (wHolders k h a P X_0) ss.heap.size (wHolders k h a P X')) ([.ref (h 0)] : List Value).toArray ss 0 0 (va_A (wHolders k h a P X_0) ss.heap.size)) (F0 mm 0 ls []) := by
    intro H locs _ _ hP hS
    refine lv_iconst (v := 0) hx hb dX2_look_0 (by decide) ?_
    refine lv_istore_n (lv' := [(1, .int 0), (0, .ref (h 0))]) hx hb dX2_look_1 rfl hl (by decide) rfl (fun ls hl => ?_)
    exact B2 600 0 X_0 he H locs hP hD hS ls (lv_sub hl [1, 0] rfl)
  exact key ss.heap [] rfl rfl hP hS
theorem kX2_setOf : yX2_setOf.cls = RX2 ∧ yX2_setOf.cls ≠ "java/lang/invoke/MethodHandle" ∧ yX2_setOf.cls ≠ "java/lang/invoke/VarHandle" ∧ (parseMethodDescriptor yX2_setOf.desc).map (fun d => d.parameters.length) = some 1 := by decide +kernel
set_option maxRecDepth 100000 in
set_option maxHeartbeats 4000000 in
theorem mX2_setOf (l : Launch) (D : va_G) (k : Nat → ClassId) (h : Nat → Nat) (a : Nat → Nat) {P : Nat → Nat → Int32} {X : Nat → Int32} {p1 : Int32} {r : Int32}  (he : xX2_setOf X p1 = some r) : CtI l D k yX2_setOf wsX2_setOf ({ frames := 0, cells := 0, slots := 0, locals := 0 } : Room) [.ref (h 0), .int p1] (wHolders k h a P X) r (wHolders k h a P X) := by
  intro sz9
  refine cSt (lv := [(0, .ref (h 0)), (1, .int p1)]) (own := RX2) (cc := cX2_setOf) (nL := 2) (ret := (some .int)) (by decide +kernel) rfl rfl (Nat.le_of_ble_eq_true rfl) rfl ?_
  intro pp ee ss mm bl me co hsz hC0 hP hD hS ls hl
  subst hsz
  obtain ⟨hx, hb, hr, hml, hown, hts, hK, hlk⟩ := hC0
  have hA : ∀ q, ss.heap.size ≤ q → va_A (wHolders k h a P X) ss.heap.size q := fun q h => Or.inr h
  have iX2 : ∀ w ∈ wsX20, w ∈ wsX2_setOf := fun _ h => List.mem_cons_of_mem _ (List.mem_append_right _ h)
  have w1 := hts (.fieldLink RX2 15 "DeadListPool$Holders" "sets" "[I") (List.mem_of_getElem? (i := 1) rfl)
  have hS0 := hS
  have key : ∀ (H : Heap) (locs : List Loc), H = ss.heap → locs = [] → va_P D vwCl (wHolders k h a P X) H → va_S (va_A (wHolders k h a P X) ss.heap.size) ss.heap H locs → W pp l ee ({ frames := 0, cells := 0, slots := 0, locals := 0 } : Room) ss mm ([.ref (h 0), .int p1] : List Value).toArray bl me co H locs 0 0 (MQ bl (cQi D k (wHolders k h a P X) ss.heap.size r (wHolders k h a P X)) ([.ref (h 0), .int p1] : List Value).toArray ss 0 0 (va_A (wHolders k h a P X) ss.heap.size)) (F0 mm 0 ls []) := by
    intro H locs _ _ hP hS
    refine lv_iload_n hx hb dX2_setOf_0 rfl (lv_at hl 1 rfl) ?_
    refine lv_if_lt (tgt := 19) hx hb dX2_setOf_1 (by decide) (fun c1001 => ?_) (fun c1001 => ?_)
    · have he := ifp he c1001
      refine lv_iconst (v := 0) hx hb dX2_setOf_19 (by decide) ?_
      obtain rfl := some1 he
      exact cRi hx hb hr hlk hK rfl hP hD hS dX2_setOf_20
    · have he := ifn he c1001
      refine lv_iload_n hx hb dX2_setOf_4 rfl (lv_at hl 1 rfl) ?_
      refine lv_bipush (v := 96) hx hb dX2_setOf_5 (by decide) ?_
      refine lv_icmp_ge (tgt := 19) hx hb dX2_setOf_7 (by decide) (fun c1002 => ?_) (fun c1002 => ?_)
      · have he := ifp he c1002
        refine lv_iconst (v := 0) hx hb dX2_setOf_19 (by decide) ?_
        obtain rfl := some1 he
        exact cRi hx hb hr hlk hK rfl hP hD hS dX2_setOf_20
      · have he := ifn he c1002
        refine lv_aload_n hx hb dX2_setOf_10 rfl (lv_at hl 0 rfl) ?_
        refine va_get (D := D) (ci := 2) (v := .ref (h 1)) (C := RX2) (T := TX2) (N := 2) hx hb hts iX2 hown hK hP 0 rfl rfl 1 (by decide) w1 (fun _ h9 => h9) rfl dX2_setOf_11 ?_
        refine lv_iload_n hx hb dX2_setOf_14 rfl (lv_at hl 1 rfl) ?_
        obtain ⟨h1003, he⟩ := grd_i he
        refine va_iald hx hb hK hP 1 0 rfl rfl (ix_in h1003) dX2_setOf_15 ?_
        refine lv_goto (tgt := 20) hx hb dX2_setOf_16 (by decide) ?_
        obtain rfl := some1 he
        exact cRi hx hb hr hlk hK rfl hP hD hS dX2_setOf_20
  exact key ss.heap [] rfl rfl hP hS
