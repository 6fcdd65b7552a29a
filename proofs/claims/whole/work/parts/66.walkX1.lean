theorem kX1_findCandidates : yX1_findCandidates.cls = RX1 ∧ yX1_findCandidates.cls ≠ "java/lang/invoke/MethodHandle" ∧ yX1_findCandidates.cls ≠ "java/lang/invoke/VarHandle" ∧ (parseMethodDescriptor yX1_findCandidates.desc).map (fun d => d.parameters.length) = some 1 := by decide +kernel
set_option maxRecDepth 100000 in
set_option maxHeartbeats 4000000 in
theorem mX1_findCandidates (l : Launch) (D : va_G) (k : Nat → ClassId) (c : Nat → Nat) (h : Nat → Nat) (a : Nat → Nat) {P : Nat → Nat → Int32} {X : Nat → Int32} {C_0 : Nat → Int32} {F : Nat → Int64} {p1 : Int32} {r : Int32} {C' : Nat → Int32} (he : xX1_findCandidates P C_0 p1 = some (r, C')) : CtI l D k yX1_findCandidates wsX1_findCandidates ({ frames := 3, cells := 0, slots := 0, locals := 64 } : Room) [.ref (c 0), .int p1] (wChoice k c h a P X C_0 F) r (wChoice k c h a P X C' F) := by
  intro sz9
  refine cSt (lv := [(0, .ref (c 0)), (1, .int p1)]) (own := RX1) (cc := cX1_findCandidates) (nL := 6) (ret := (some .int)) (by decide +kernel) rfl rfl (Nat.le_of_ble_eq_true rfl) rfl ?_
  intro pp ee ss mm bl me co hsz hC0 hP hD hS ls hl
  subst hsz
  obtain ⟨hx, hb, hr, hml, hown, hts, hK, hlk⟩ := hC0
  have hA : ∀ q, ss.heap.size ≤ q → va_A (wChoice k c h a P X C_0 F) ss.heap.size q := fun q h => Or.inr h
  have iX1 : ∀ w ∈ wsX10, w ∈ wsX1_findCandidates := fun _ h => List.mem_cons_of_mem _ (List.mem_append_left _ (List.mem_append_right _ h))
  have w1 := hts (.fieldLink RX1 9 "DeadListPool$Choice" "pool" "LDeadListPool$Pool;") (List.mem_of_getElem? (i := 1) rfl)
  have w6 := hts (.fieldLink RX1 24 "DeadListPool$Choice" "candidates" "[I") (List.mem_of_getElem? (i := 6) rfl)
  have w2 := hts (.methodLink RX1 72 Lib.Math.min.name) (List.mem_of_getElem? (i := 2) rfl)
  have w3 := hts (.static Lib.Math.min.name) (List.mem_of_getElem? (i := 3) rfl)
  have w4 := hts (.initialized "java/lang/Math") (List.mem_of_getElem? (i := 4) rfl)
  have w5 := hts (.code Lib.Math.min.name Lib.Math.min.code 2 (some .int)) (List.mem_of_getElem? (i := 5) rfl)
  have B19 : ∀ (n19 : Nat) (x1 : Int32) (x2 : Int32) (x3 : Int32) (x4 : Int32) (C : Nat → Int32), xX1_findCandidates_19 P n19 x1 x2 x3 x4 C = some (r, C') → ∀ (H : Heap) (locs : List Loc), va_P D vwCl (wChoice k c h a P X C F) H → va_D (va_A (wChoice k c h a P X C_0 F) ss.heap.size) (wChoice k c h a P X C F) → va_S (va_A (wChoice k c h a P X C_0 F) ss.heap.size) ss.heap H locs → ∀ ls : Array Slot, lv_has ls 6 [(0, .ref (c 0)), (1, .int x1), (2, .int x2), (3, .int x3), (4, .int x4)] → W pp l ee ({ frames := 3, cells := 0, slots := 0, locals := 64 } : Room) ss mm ([.ref (c 0), .int p1] : List Value).toArray bl me co H locs 0 0 (MQ bl (cQi D k (wChoice k c h a P X C_0 F) ss.heap.size r (wChoice k c h a P X C' F)) ([.ref (c 0), .int p1] : List Value).toArray ss 0 0 (va_A (wChoice k c h a P X C_0 F) ss.heap.size)) (F0 mm 19 ls []) := by
    intro n19
    induction n19 with
    | zero =>
      intro x1 x2 x3 x4 C he
      exact absurd (show (none : Option (Int32 × (Nat → Int32))) = some (r, C') from he) (by simp)
    | succ n19 ih19 =>
      intro x1 x2 x3 x4 C he H locs hP hD hS ls hl
      refine lv_iload hx hb dX1_findCandidates_19 (lv_at hl 4 rfl) ?_
      refine lv_iload_n hx hb dX1_findCandidates_21 rfl (lv_at hl 2 rfl) ?_
      refine lv_icmp_ge (tgt := 72) hx hb dX1_findCandidates_22 (by decide) (fun c1 => ?_) (fun c1 => ?_)
      · have he := ifp he c1
        refine lv_iload_n hx hb dX1_findCandidates_72 rfl (lv_at hl 3 rfl) ?_
        obtain ⟨rfl, rfl⟩ := some2 he
        exact cRi hx hb hr hlk hK rfl hP hD hS dX1_findCandidates_73
      · have he := ifn he c1
        refine lv_aload_n hx hb dX1_findCandidates_25 rfl (lv_at hl 0 rfl) ?_
        refine va_get (D := D) (ci := 1) (v := .ref (a 0)) (C := RX1) (T := TX1) (N := 4) hx hb hts iX1 hown hK hP 0 rfl rfl 0 (by decide) w1 (fun _ h9 => h9) rfl dX1_findCandidates_26 ?_
        refine lv_iload_n hx hb dX1_findCandidates_29 rfl (lv_at hl 1 rfl) ?_
        refine lv_iload hx hb dX1_findCandidates_30 (lv_at hl 4 rfl) ?_
        obtain ⟨v2, h3, he⟩ := bn1_i he
        refine cVir (As := [.int x1, .int x4]) (rest := []) ⟨hx, hb, hml, hown, hts⟩ hK hA hP hD hS (mX4_inChain l D k a (P := P) h3) (cwV 2 hts gX1_findCandidates_X4_inChain rfl rfl rfl kX4_inChain ⟨Nat.le_of_ble_eq_true rfl, Nat.le_of_ble_eq_true rfl⟩) [5, 6, 7, 8, 9, 10, 11, 12, 13, 14] rfl rfl 0 rfl rfl rfl hl.1 rfl (Nat.le_of_ble_eq_true rfl) ⟨Nat.le_refl 0, Nat.le_refl 0⟩ dX1_findCandidates_32 (fun H locs hP hD hS => ?_)
        refine lv_istore (lv' := [(5, .int v2), (0, .ref (c 0)), (1, .int x1), (2, .int x2), (3, .int x3), (4, .int x4)]) hx hb dX1_findCandidates_35 hl (by decide) rfl (fun ls hl => ?_)
        refine lv_aload_n hx hb dX1_findCandidates_37 rfl (lv_at hl 1 rfl) ?_
        refine va_get (D := D) (ci := 1) (v := .ref (a 0)) (C := RX1) (T := TX1) (N := 4) hx hb hts iX1 hown hK hP 0 rfl rfl 0 (by decide) w1 (fun _ h9 => h9) rfl dX1_findCandidates_38 ?_
        refine lv_iload hx hb dX1_findCandidates_41 (lv_at hl 0 rfl) ?_
        obtain ⟨v4, h5, he⟩ := bn1_i he
        refine cVir (As := [.int v2]) (rest := []) ⟨hx, hb, hml, hown, hts⟩ hK hA hP hD hS (mX4_isLoose l D k a (P := P) h5) (cwV 1 hts gX1_findCandidates_X4_isLoose rfl rfl rfl kX4_isLoose ⟨Nat.le_of_ble_eq_true rfl, Nat.le_of_ble_eq_true rfl⟩) [5, 6, 7, 8, 9, 10, 11, 12, 13, 14] rfl rfl 0 rfl rfl rfl hl.1 rfl (Nat.le_of_ble_eq_true rfl) ⟨Nat.le_refl 0, Nat.le_refl 0⟩ dX1_findCandidates_43 (fun H locs hP hD hS => ?_)
        refine lv_if_eq (tgt := 66) hx hb dX1_findCandidates_46 (by decide) (fun c6 => ?_) (fun c6 => ?_)
        · have he := ifp he c6
          refine lv_iinc (v := (x4 + 1)) (lv' := [(4, .int (x4 + 1)), (5, .int v2), (0, .ref (c 0)), (1, .int x1), (2, .int x2), (3, .int x3)]) hx hb dX1_findCandidates_66 hl (k := 5) rfl rfl (by decide) rfl (fun ls hl => ?_)
          refine lv_goto (tgt := 19) hx hb dX1_findCandidates_69 (by decide) ?_
          exact ih19 x1 x2 x3 (x4 + 1) C he H locs hP hD hS ls (lv_sub hl [2, 3, 4, 5, 0] rfl)
        · have he := ifn he c6
          refine lv_iload_n hx hb dX1_findCandidates_49 rfl (lv_at hl 4 rfl) ?_
          refine lv_bipush (v := 8) hx hb dX1_findCandidates_50 (by decide) ?_
          refine lv_icmp_ge (tgt := 66) hx hb dX1_findCandidates_52 (by decide) (fun c7 => ?_) (fun c7 => ?_)
          · have he := ifp he c7
            refine lv_iinc (v := (x4 + 1)) (lv' := [(4, .int (x4 + 1)), (5, .int v2), (0, .ref (c 0)), (1, .int x1), (2, .int x2), (3, .int x3)]) hx hb dX1_findCandidates_66 hl (k := 5) rfl rfl (by decide) rfl (fun ls hl => ?_)
            refine lv_goto (tgt := 19) hx hb dX1_findCandidates_69 (by decide) ?_
            exact ih19 x1 x2 x3 (x4 + 1) C he H locs hP hD hS ls (lv_sub hl [2, 3, 4, 5, 0] rfl)
          · have he := ifn he c7
            refine lv_aload_n hx hb dX1_findCandidates_55 rfl (lv_at hl 1 rfl) ?_
            refine va_get (D := D) (ci := 1) (v := .ref (c 1)) (C := RX1) (T := TX1) (N := 4) hx hb hts iX1 hown hK hP 0 rfl rfl 2 (by decide) w6 (fun _ h9 => h9) rfl dX1_findCandidates_56 ?_
            refine lv_iload_n hx hb dX1_findCandidates_59 rfl (lv_at hl 4 rfl) ?_
            refine lv_iload hx hb dX1_findCandidates_60 (lv_at hl 0 rfl) ?_
            obtain ⟨h8, he⟩ := grd_i he
            obtain ⟨C9, e10, he⟩ := lt_i he
            refine va_iast hx hb hK hP hD hS 1 0 rfl rfl (ix_in h8) dX1_findCandidates_62 (fun H locs hP hD hS => ?_)
            have hP : va_P D vwCl (wChoice k c h a P X C9 F) H := by rw [e10]; exact hP
            have hD : va_D _ (wChoice k c h a P X C9 F) := va_D_adr (by rw [e10]; rfl) hD
            refine lv_iinc (v := (x3 + 1)) (lv' := [(3, .int (x3 + 1)), (5, .int v2), (0, .ref (c 0)), (1, .int x1), (2, .int x2), (4, .int x4)]) hx hb dX1_findCandidates_63 hl (k := 4) rfl rfl (by decide) rfl (fun ls hl => ?_)
            refine lv_iinc (v := (x4 + 1)) (lv' := [(4, .int (x4 + 1)), (3, .int (x3 + 1)), (5, .int v2), (0, .ref (c 0)), (1, .int x1), (2, .int x2)]) hx hb dX1_findCandidates_66 hl (k := 5) rfl rfl (by decide) rfl (fun ls hl => ?_)
            refine lv_goto (tgt := 19) hx hb dX1_findCandidates_69 (by decide) ?_
            exact ih19 x1 x2 (x3 + 1) (x4 + 1) C9 he H locs hP hD hS ls (lv_sub hl [3, 4, 5, 1, 0] rfl)
  have hS0 := hS
  have key : ∀ (H : Heap) (locs : List Loc), H = ss.heap → locs = [] → va_P D vwCl (wChoice k c h a P X C_0 F) H → va_S (va_A (wChoice k c h a P X C_0 F) ss.heap.size) ss.heap H locs → W pp l ee ({ frames := 3, cells := 0, slots := 0, locals := 64 } : Room) ss mm ([.ref (c 0), .int p1] : List Value).toArray bl me co H locs 0 0 (MQ bl (cQi D k (wChoice k c h a P X C_0 F) ss.heap.size r (wChoice k c h a P X C' F)) ([.ref (c 0), .int p1] : List Value).toArray ss 0 0 (va_A (wChoice k c h a P X C_0 F) ss.heap.size)) (F0 mm 0 ls []) := by
    intro H locs _ _ hP hS
    refine lv_aload_n hx hb dX1_findCandidates_0 rfl (lv_at hl 0 rfl) ?_
    refine va_get (D := D) (ci := 1) (v := .ref (a 0)) (C := RX1) (T := TX1) (N := 4) hx hb hts iX1 hown hK hP 0 rfl rfl 0 (by decide) w1 (fun _ h9 => h9) rfl dX1_findCandidates_1 ?_
    refine lv_iload_n hx hb dX1_findCandidates_4 rfl (lv_at hl 1 rfl) ?_
    obtain ⟨v1001, h1002, he⟩ := bn1_i he
    refine cVir (As := [.int p1]) (rest := []) ⟨hx, hb, hml, hown, hts⟩ hK hA hP hD hS (mX4_ownCount l D k a (P := P) h1002) (cwV 1 hts gX1_findCandidates_X4_ownCount rfl rfl rfl kX4_ownCount ⟨Nat.le_of_ble_eq_true rfl, Nat.le_of_ble_eq_true rfl⟩) [5, 6, 7, 8, 9, 10, 11, 12, 13, 14] rfl rfl 0 rfl rfl rfl hl.1 rfl (Nat.le_of_ble_eq_true rfl) ⟨Nat.le_refl 0, Nat.le_refl 0⟩ dX1_findCandidates_5 (fun H locs hP hD hS => ?_)
    refine lv_bipush (v := 8) hx hb dX1_findCandidates_8 (by decide) ?_
    refine va_mmin hx hb (hml.trans hl.1.symm) hown w2 w3 w4 w5 (Nat.le_of_ble_eq_true rfl) (Nat.le_of_ble_eq_true rfl) (Nat.le_refl 0) (Nat.le_refl 0) dX1_findCandidates_10 ?_
    refine lv_istore_n (lv' := [(2, .int (if 8 < v1001 then 8 else v1001)), (0, .ref (c 0)), (1, .int p1)]) hx hb dX1_findCandidates_13 rfl hl (by decide) rfl (fun ls hl => ?_)
    refine lv_iconst (v := 0) hx hb dX1_findCandidates_14 (by decide) ?_
    refine lv_istore_n (lv' := [(3, .int 0), (2, .int (if 8 < v1001 then 8 else v1001)), (0, .ref (c 0)), (1, .int p1)]) hx hb dX1_findCandidates_15 rfl hl (by decide) rfl (fun ls hl => ?_)
    refine lv_iconst (v := 0) hx hb dX1_findCandidates_16 (by decide) ?_
    refine lv_istore (lv' := [(4, .int 0), (3, .int 0), (2, .int (if 8 < v1001 then 8 else v1001)), (0, .ref (c 0)), (1, .int p1)]) hx hb dX1_findCandidates_17 hl (by decide) rfl (fun ls hl => ?_)
    exact B19 600 p1 (if 8 < v1001 then 8 else v1001) 0 0 C_0 he H locs hP hD hS ls (lv_sub hl [3, 4, 2, 1, 0] rfl)
  exact key ss.heap [] rfl rfl hP hS
theorem kX1_candidatesAlone : yX1_candidatesAlone.cls = RX1 ∧ yX1_candidatesAlone.cls ≠ "java/lang/invoke/MethodHandle" ∧ yX1_candidatesAlone.cls ≠ "java/lang/invoke/VarHandle" ∧ (parseMethodDescriptor yX1_candidatesAlone.desc).map (fun d => d.parameters.length) = some 2 := by decide +kernel
set_option maxRecDepth 100000 in
set_option maxHeartbeats 4000000 in
theorem mX1_candidatesAlone (l : Launch) (D : va_G) (k : Nat → ClassId) (c : Nat → Nat) (h : Nat → Nat) (a : Nat → Nat) {P : Nat → Nat → Int32} {X : Nat → Int32} {C : Nat → Int32} {F : Nat → Int64} {p1 : Int32} {p2 : Int32} {r : Int32}  (he : xX1_candidatesAlone C p1 p2 = some r) : CtI l D k yX1_candidatesAlone wsX1_candidatesAlone ({ frames := 0, cells := 0, slots := 0, locals := 0 } : Room) [.ref (c 0), .int p1, .int p2] (wChoice k c h a P X C F) r (wChoice k c h a P X C F) := by
  intro sz9
  refine cSt (lv := [(0, .ref (c 0)), (1, .int p1), (2, .int p2)]) (own := RX1) (cc := cX1_candidatesAlone) (nL := 7) (ret := (some .int)) (by decide +kernel) rfl rfl (Nat.le_of_ble_eq_true rfl) rfl ?_
  intro pp ee ss mm bl me co hsz hC0 hP hD hS ls hl
  subst hsz
  obtain ⟨hx, hb, hr, hml, hown, hts, hK, hlk⟩ := hC0
  have hA : ∀ q, ss.heap.size ≤ q → va_A (wChoice k c h a P X C F) ss.heap.size q := fun q h => Or.inr h
  have iX1 : ∀ w ∈ wsX10, w ∈ wsX1_candidatesAlone := fun _ h => List.mem_cons_of_mem _ (List.mem_append_right _ h)
  have w1 := hts (.fieldLink RX1 24 "DeadListPool$Choice" "candidates" "[I") (List.mem_of_getElem? (i := 1) rfl)
  have B61 : ∀ (x3 : Int32) (x4 : Int32), xX1_candidatesAlone_61 C x3 x4 = some r → ∀ (H : Heap) (locs : List Loc), va_P D vwCl (wChoice k c h a P X C F) H → va_D (va_A (wChoice k c h a P X C F) ss.heap.size) (wChoice k c h a P X C F) → va_S (va_A (wChoice k c h a P X C F) ss.heap.size) ss.heap H locs → ∀ ls : Array Slot, lv_has ls 7 [(3, .int x3), (4, .int x4)] → W pp l ee ({ frames := 0, cells := 0, slots := 0, locals := 0 } : Room) ss mm ([.ref (c 0), .int p1, .int p2] : List Value).toArray bl me co H locs 0 0 (MQ bl (cQi D k (wChoice k c h a P X C F) ss.heap.size r (wChoice k c h a P X C F)) ([.ref (c 0), .int p1, .int p2] : List Value).toArray ss 0 0 (va_A (wChoice k c h a P X C F) ss.heap.size)) (F0 mm 61 ls []) := by
    intro x3 x4 he H locs hP hD hS ls hl
    refine lv_iload_n hx hb dX1_candidatesAlone_61 rfl (lv_at hl 0 rfl) ?_
    refine lv_if_ne (tgt := 70) hx hb dX1_candidatesAlone_62 (by decide) (fun c1 => ?_) (fun c1 => ?_)
    · have he := ifn he c1
      refine lv_iconst (v := (-1)) hx hb dX1_candidatesAlone_70 (by decide) ?_
      obtain rfl := some1 he
      exact cRi hx hb hr hlk hK rfl hP hD hS dX1_candidatesAlone_71
    · have he := ifp he c1
      refine lv_iload hx hb dX1_candidatesAlone_65 (lv_at hl 1 rfl) ?_
      refine lv_goto (tgt := 71) hx hb dX1_candidatesAlone_67 (by decide) ?_
      obtain rfl := some1 he
      exact cRi hx hb hr hlk hK rfl hP hD hS dX1_candidatesAlone_71
  have B8 : ∀ (n8 : Nat) (x2 : Int32) (x3 : Int32) (x4 : Int32) (x5 : Int32), xX1_candidatesAlone_8 C n8 x2 x3 x4 x5 = some r → ∀ (H : Heap) (locs : List Loc), va_P D vwCl (wChoice k c h a P X C F) H → va_D (va_A (wChoice k c h a P X C F) ss.heap.size) (wChoice k c h a P X C F) → va_S (va_A (wChoice k c h a P X C F) ss.heap.size) ss.heap H locs → ∀ ls : Array Slot, lv_has ls 7 [(0, .ref (c 0)), (2, .int x2), (3, .int x3), (4, .int x4), (5, .int x5)] → W pp l ee ({ frames := 0, cells := 0, slots := 0, locals := 0 } : Room) ss mm ([.ref (c 0), .int p1, .int p2] : List Value).toArray bl me co H locs 0 0 (MQ bl (cQi D k (wChoice k c h a P X C F) ss.heap.size r (wChoice k c h a P X C F)) ([.ref (c 0), .int p1, .int p2] : List Value).toArray ss 0 0 (va_A (wChoice k c h a P X C F) ss.heap.size)) (F0 mm 8 ls []) := by
    intro n8
    induction n8 with
    | zero =>
      intro x2 x3 x4 x5 he
      exact absurd (show (none : Option (Int32)) = some r from he) (by simp)
    | succ n8 ih8 =>
      intro x2 x3 x4 x5 he H locs hP hD hS ls hl
      refine lv_iload hx hb dX1_candidatesAlone_8 (lv_at hl 4 rfl) ?_
      refine lv_iload_n hx hb dX1_candidatesAlone_10 rfl (lv_at hl 1 rfl) ?_
      refine lv_icmp_ge (tgt := 61) hx hb dX1_candidatesAlone_11 (by decide) (fun c2 => ?_) (fun c2 => ?_)
      · have he := ifp he c2
        exact B61 x3 x4 he H locs hP hD hS ls (lv_sub hl [2, 3] rfl)
      · have he := ifn he c2
        refine lv_iload hx hb dX1_candidatesAlone_14 (lv_at hl 4 rfl) ?_
        refine lv_bipush (v := 8) hx hb dX1_candidatesAlone_16 (by decide) ?_
        refine lv_icmp_ge (tgt := 61) hx hb dX1_candidatesAlone_18 (by decide) (fun c3 => ?_) (fun c3 => ?_)
        · have he := ifp he c3
          exact B61 x3 x4 he H locs hP hD hS ls (lv_sub hl [2, 3] rfl)
        · have he := ifn he c3
          refine lv_iconst (v := 1) hx hb dX1_candidatesAlone_21 (by decide) ?_
          refine lv_aload_n hx hb dX1_candidatesAlone_22 rfl (lv_at hl 0 rfl) ?_
          refine va_get (D := D) (ci := 1) (v := .ref (c 1)) (C := RX1) (T := TX1) (N := 4) hx hb hts iX1 hown hK hP 0 rfl rfl 2 (by decide) w1 (fun _ h9 => h9) rfl dX1_candidatesAlone_23 ?_
          refine lv_iload hx hb dX1_candidatesAlone_26 (lv_at hl 4 rfl) ?_
          obtain ⟨h4, he⟩ := grd_i he
          refine va_iald hx hb hK hP 1 0 rfl rfl (ix_in h4) dX1_candidatesAlone_28 ?_
          refine lv_ishl hx hb dX1_candidatesAlone_29 ?_
          refine lv_istore (lv' := [(6, .int (1 <<< ((C (Int32.toNatClampNeg x5)) &&& 31))), (0, .ref (c 0)), (2, .int x2), (3, .int x3), (4, .int x4), (5, .int x5)]) hx hb dX1_candidatesAlone_30 hl (by decide) rfl (fun ls hl => ?_)
          refine lv_iload_n hx hb dX1_candidatesAlone_32 rfl (lv_at hl 3 rfl) ?_
          refine lv_iload hx hb dX1_candidatesAlone_33 (lv_at hl 0 rfl) ?_
          refine lv_iand hx hb dX1_candidatesAlone_35 ?_
          refine lv_if_eq (tgt := 55) hx hb dX1_candidatesAlone_36 (by decide) (fun c5 => ?_) (fun c5 => ?_)
          · have he := ifp he c5
            refine lv_iinc (v := (x5 + 1)) (lv' := [(5, .int (x5 + 1)), (6, .int (1 <<< ((C (Int32.toNatClampNeg x5)) &&& 31))), (0, .ref (c 0)), (2, .int x2), (3, .int x3), (4, .int x4)]) hx hb dX1_candidatesAlone_55 hl (k := 5) rfl rfl (by decide) rfl (fun ls hl => ?_)
            refine lv_goto (tgt := 8) hx hb dX1_candidatesAlone_58 (by decide) ?_
            exact ih8 x2 x3 x4 (x5 + 1) he H locs hP hD hS ls (lv_sub hl [2, 3, 4, 5, 0] rfl)
          · have he := ifn he c5
            refine lv_iload hx hb dX1_candidatesAlone_39 (lv_at hl 4 rfl) ?_
            refine lv_iconst (v := 1) hx hb dX1_candidatesAlone_41 (by decide) ?_
            refine lv_iload hx hb dX1_candidatesAlone_42 (lv_at hl 5 rfl) ?_
            refine lv_ishl hx hb dX1_candidatesAlone_44 ?_
            refine lv_ior hx hb dX1_candidatesAlone_45 ?_
            refine lv_istore (lv' := [(4, .int (x4 ||| (1 <<< (x5 &&& 31)))), (6, .int (1 <<< ((C (Int32.toNatClampNeg x5)) &&& 31))), (0, .ref (c 0)), (2, .int x2), (3, .int x3), (5, .int x5)]) hx hb dX1_candidatesAlone_46 hl (by decide) rfl (fun ls hl => ?_)
            refine lv_iload_n hx hb dX1_candidatesAlone_48 rfl (lv_at hl 4 rfl) ?_
            refine lv_iload hx hb dX1_candidatesAlone_49 (lv_at hl 1 rfl) ?_
            refine lv_iconst (v := (-1)) hx hb dX1_candidatesAlone_51 (by decide) ?_
            refine lv_ixor hx hb dX1_candidatesAlone_52 ?_
            refine lv_iand hx hb dX1_candidatesAlone_53 ?_
            refine lv_istore_n (lv' := [(3, .int (x3 &&& ((1 <<< ((C (Int32.toNatClampNeg x5)) &&& 31)) ^^^ (-1)))), (4, .int (x4 ||| (1 <<< (x5 &&& 31)))), (6, .int (1 <<< ((C (Int32.toNatClampNeg x5)) &&& 31))), (0, .ref (c 0)), (2, .int x2), (5, .int x5)]) hx hb dX1_candidatesAlone_54 rfl hl (by decide) rfl (fun ls hl => ?_)
            refine lv_iinc (v := (x5 + 1)) (lv' := [(5, .int (x5 + 1)), (3, .int (x3 &&& ((1 <<< ((C (Int32.toNatClampNeg x5)) &&& 31)) ^^^ (-1)))), (4, .int (x4 ||| (1 <<< (x5 &&& 31)))), (6, .int (1 <<< ((C (Int32.toNatClampNeg x5)) &&& 31))), (0, .ref (c 0)), (2, .int x2)]) hx hb dX1_candidatesAlone_55 hl (k := 5) rfl rfl (by decide) rfl (fun ls hl => ?_)
            refine lv_goto (tgt := 8) hx hb dX1_candidatesAlone_58 (by decide) ?_
            exact ih8 x2 (x3 &&& ((1 <<< ((C (Int32.toNatClampNeg x5)) &&& 31)) ^^^ (-1))) (x4 ||| (1 <<< (x5 &&& 31))) (x5 + 1) he H locs hP hD hS ls (lv_sub hl [4, 5, 1, 2, 0] rfl)
  have hS0 := hS
  have key : ∀ (H : Heap) (locs : List Loc), H = ss.heap → locs = [] → va_P D vwCl (wChoice k c h a P X C F) H → va_S (va_A (wChoice k c h a P X C F) ss.heap.size) ss.heap H locs → W pp l ee ({ frames := 0, cells := 0, slots := 0, locals := 0 } : Room) ss mm ([.ref (c 0), .int p1, .int p2] : List Value).toArray bl me co H locs 0 0 (MQ bl (cQi D k (wChoice k c h a P X C F) ss.heap.size r (wChoice k c h a P X C F)) ([.ref (c 0), .int p1, .int p2] : List Value).toArray ss 0 0 (va_A (wChoice k c h a P X C F) ss.heap.size)) (F0 mm 0 ls []) := by
    intro H locs _ _ hP hS
    refine lv_iload_n hx hb dX1_candidatesAlone_0 rfl (lv_at hl 1 rfl) ?_
    refine lv_istore_n (lv' := [(3, .int p1), (0, .ref (c 0)), (1, .int p1), (2, .int p2)]) hx hb dX1_candidatesAlone_1 rfl hl (by decide) rfl (fun ls hl => ?_)
    refine lv_iconst (v := 0) hx hb dX1_candidatesAlone_2 (by decide) ?_
    refine lv_istore (lv' := [(4, .int 0), (3, .int p1), (0, .ref (c 0)), (1, .int p1), (2, .int p2)]) hx hb dX1_candidatesAlone_3 hl (by decide) rfl (fun ls hl => ?_)
    refine lv_iconst (v := 0) hx hb dX1_candidatesAlone_5 (by decide) ?_
    refine lv_istore (lv' := [(5, .int 0), (4, .int 0), (3, .int p1), (0, .ref (c 0)), (1, .int p1), (2, .int p2)]) hx hb dX1_candidatesAlone_6 hl (by decide) rfl (fun ls hl => ?_)
    exact B8 600 p2 p1 0 0 he H locs hP hD hS ls (lv_sub hl [3, 5, 2, 1, 0] rfl)
  exact key ss.heap [] rfl rfl hP hS
theorem kX1_addSubsets : yX1_addSubsets.cls = RX1 ∧ yX1_addSubsets.cls ≠ "java/lang/invoke/MethodHandle" ∧ yX1_addSubsets.cls ≠ "java/lang/invoke/VarHandle" ∧ (parseMethodDescriptor yX1_addSubsets.desc).map (fun d => d.parameters.length) = some 1 := by decide +kernel
set_option maxRecDepth 100000 in
set_option maxHeartbeats 4000000 in
theorem mX1_addSubsets (l : Launch) (D : va_G) (k : Nat → ClassId) (c : Nat → Nat) (h : Nat → Nat) (a : Nat → Nat) {P : Nat → Nat → Int32} {X : Nat → Int32} {C : Nat → Int32} {F_0 : Nat → Int64} {p1 : Int32} {F' : Nat → Int64} (he : xX1_addSubsets F_0 p1 = some F') : CtV l D k yX1_addSubsets wsX1_addSubsets ({ frames := 0, cells := 0, slots := 0, locals := 0 } : Room) [.ref (c 0), .int p1] (wChoice k c h a P X C F_0) (wChoice k c h a P X C F') := by
  intro sz9
  refine cSt (lv := [(0, .ref (c 0)), (1, .int p1)]) (own := RX1) (cc := cX1_addSubsets) (nL := 4) (ret := none) (by decide +kernel) rfl rfl (Nat.le_of_ble_eq_true rfl) rfl ?_
  intro pp ee ss mm bl me co hsz hC0 hP hD hS ls hl
  subst hsz
  obtain ⟨hx, hb, hr, hml, hown, hts, hK, hlk⟩ := hC0
  have hA : ∀ q, ss.heap.size ≤ q → va_A (wChoice k c h a P X C F_0) ss.heap.size q := fun q h => Or.inr h
  have iX1 : ∀ w ∈ wsX10, w ∈ wsX1_addSubsets := fun _ h => List.mem_cons_of_mem _ (List.mem_append_right _ h)
  have w1 := hts (.fieldLink RX1 28 "DeadListPool$Choice" "freed" "[J") (List.mem_of_getElem? (i := 1) rfl)
  have B2 : ∀ (n2 : Nat) (x1 : Int32) (x2 : Int32) (F : Nat → Int64), xX1_addSubsets_2 n2 x1 x2 F = some F' → ∀ (H : Heap) (locs : List Loc), va_P D vwCl (wChoice k c h a P X C F) H → va_D (va_A (wChoice k c h a P X C F_0) ss.heap.size) (wChoice k c h a P X C F) → va_S (va_A (wChoice k c h a P X C F_0) ss.heap.size) ss.heap H locs → ∀ ls : Array Slot, lv_has ls 4 [(0, .ref (c 0)), (1, .int x1), (2, .int x2)] → W pp l ee ({ frames := 0, cells := 0, slots := 0, locals := 0 } : Room) ss mm ([.ref (c 0), .int p1] : List Value).toArray bl me co H locs 0 0 (MQ bl (cQv D k (wChoice k c h a P X C F_0) ss.heap.size (wChoice k c h a P X C F')) ([.ref (c 0), .int p1] : List Value).toArray ss 0 0 (va_A (wChoice k c h a P X C F_0) ss.heap.size)) (F0 mm 2 ls []) := by
    intro n2
    induction n2 with
    | zero =>
      intro x1 x2 F he
      exact absurd (show (none : Option ((Nat → Int64))) = some F' from he) (by simp)
    | succ n2 ih2 =>
      have B9 : ∀ (n9 : Nat) (x1 : Int32) (x2 : Int32) (x3 : Int32) (F : Nat → Int64), xX1_addSubsets_9 (xX1_addSubsets_2 n2) n9 x1 x2 x3 F = some F' → ∀ (H : Heap) (locs : List Loc), va_P D vwCl (wChoice k c h a P X C F) H → va_D (va_A (wChoice k c h a P X C F_0) ss.heap.size) (wChoice k c h a P X C F) → va_S (va_A (wChoice k c h a P X C F_0) ss.heap.size) ss.heap H locs → ∀ ls : Array Slot, lv_has ls 4 [(0, .ref (c 0)), (1, .int x1), (2, .int x2), (3, .int x3)] → W pp l ee ({ frames := 0, cells := 0, slots := 0, locals := 0 } : Room) ss mm ([.ref (c 0), .int p1] : List Value).toArray bl me co H locs 0 0 (MQ bl (cQv D k (wChoice k c h a P X C F_0) ss.heap.size (wChoice k c h a P X C F')) ([.ref (c 0), .int p1] : List Value).toArray ss 0 0 (va_A (wChoice k c h a P X C F_0) ss.heap.size)) (F0 mm 9 ls []) := by
        intro n9
        induction n9 with
        | zero =>
          intro x1 x2 x3 F he
          exact absurd (show (none : Option ((Nat → Int64))) = some F' from he) (by simp)
        | succ n9 ih9 =>
          intro x1 x2 x3 F he H locs hP hD hS ls hl
          refine lv_iload_n hx hb dX1_addSubsets_9 rfl (lv_at hl 3 rfl) ?_
          refine lv_sipush (v := 256) hx hb dX1_addSubsets_10 (by decide) ?_
          refine lv_icmp_ge (tgt := 51) hx hb dX1_addSubsets_13 (by decide) (fun c1 => ?_) (fun c1 => ?_)
          · have he := ifp he c1
            refine lv_iinc (v := (x2 + 1)) (lv' := [(2, .int (x2 + 1)), (0, .ref (c 0)), (1, .int x1), (3, .int x3)]) hx hb dX1_addSubsets_51 hl (k := 2) rfl rfl (by decide) rfl (fun ls hl => ?_)
            refine lv_goto (tgt := 2) hx hb dX1_addSubsets_54 (by decide) ?_
            exact ih2 x1 (x2 + 1) F he H locs hP hD hS ls (lv_sub hl [1, 2, 0] rfl)
          · have he := ifn he c1
            refine lv_iload_n hx hb dX1_addSubsets_16 rfl (lv_at hl 3 rfl) ?_
            refine lv_iconst (v := 1) hx hb dX1_addSubsets_17 (by decide) ?_
            refine lv_iload_n hx hb dX1_addSubsets_18 rfl (lv_at hl 2 rfl) ?_
            refine lv_ishl hx hb dX1_addSubsets_19 ?_
            refine lv_iand hx hb dX1_addSubsets_20 ?_
            refine lv_if_eq (tgt := 45) hx hb dX1_addSubsets_21 (by decide) (fun c2 => ?_) (fun c2 => ?_)
            · have he := ifp he c2
              refine lv_iinc (v := (x3 + 1)) (lv' := [(3, .int (x3 + 1)), (0, .ref (c 0)), (1, .int x1), (2, .int x2)]) hx hb dX1_addSubsets_45 hl (k := 3) rfl rfl (by decide) rfl (fun ls hl => ?_)
              refine lv_goto (tgt := 9) hx hb dX1_addSubsets_48 (by decide) ?_
              exact ih9 x1 x2 (x3 + 1) F he H locs hP hD hS ls (lv_sub hl [1, 2, 3, 0] rfl)
            · have he := ifn he c2
              refine lv_aload_n hx hb dX1_addSubsets_24 rfl (lv_at hl 0 rfl) ?_
              refine va_get (D := D) (ci := 1) (v := .ref (c 2)) (C := RX1) (T := TX1) (N := 4) hx hb hts iX1 hown hK hP 0 rfl rfl 3 (by decide) w1 (fun _ h9 => h9) rfl dX1_addSubsets_25 ?_
              refine lv_iload_n hx hb dX1_addSubsets_28 rfl (lv_at hl 3 rfl) ?_
              refine lv_dup2_11 hx hb dX1_addSubsets_29 rfl rfl ?_
              obtain ⟨h3, he⟩ := grd_i he
              refine va_lald hx hb hK hP 2 1 rfl rfl (ix_in h3) dX1_addSubsets_30 ?_
              refine lv_aload_n hx hb dX1_addSubsets_31 rfl (lv_at hl 0 rfl) ?_
              refine va_get (D := D) (ci := 1) (v := .ref (c 2)) (C := RX1) (T := TX1) (N := 4) hx hb hts iX1 hown hK hP 0 rfl rfl 3 (by decide) w1 (fun _ h9 => h9) rfl dX1_addSubsets_32 ?_
              refine lv_iload_n hx hb dX1_addSubsets_35 rfl (lv_at hl 3 rfl) ?_
              refine lv_iconst (v := 1) hx hb dX1_addSubsets_36 (by decide) ?_
              refine lv_iload_n hx hb dX1_addSubsets_37 rfl (lv_at hl 2 rfl) ?_
              refine lv_ishl hx hb dX1_addSubsets_38 ?_
              refine lv_iconst (v := (-1)) hx hb dX1_addSubsets_39 (by decide) ?_
              refine lv_ixor hx hb dX1_addSubsets_40 ?_
              refine lv_iand hx hb dX1_addSubsets_41 ?_
              obtain ⟨h4, he⟩ := grd_i he
              refine va_lald hx hb hK hP 2 1 rfl rfl (ix_in h4) dX1_addSubsets_42 ?_
              refine lv_ladd hx hb dX1_addSubsets_43 ?_
              obtain ⟨h5, he⟩ := grd_i he
              obtain ⟨F6, e7, he⟩ := lt_i he
              refine va_last hx hb hK hP hD hS 2 1 rfl rfl (ix_in h5) dX1_addSubsets_44 (fun H locs hP hD hS => ?_)
              have hP : va_P D vwCl (wChoice k c h a P X C F6) H := by rw [e7]; exact hP
              have hD : va_D _ (wChoice k c h a P X C F6) := va_D_adr (by rw [e7]; rfl) hD
              refine lv_iinc (v := (x3 + 1)) (lv' := [(3, .int (x3 + 1)), (0, .ref (c 0)), (1, .int x1), (2, .int x2)]) hx hb dX1_addSubsets_45 hl (k := 3) rfl rfl (by decide) rfl (fun ls hl => ?_)
              refine lv_goto (tgt := 9) hx hb dX1_addSubsets_48 (by decide) ?_
              exact ih9 x1 x2 (x3 + 1) F6 he H locs hP hD hS ls (lv_sub hl [1, 2, 3, 0] rfl)
      intro x1 x2 F he H locs hP hD hS ls hl
      refine lv_iload_n hx hb dX1_addSubsets_2 rfl (lv_at hl 2 rfl) ?_
      refine lv_iload_n hx hb dX1_addSubsets_3 rfl (lv_at hl 1 rfl) ?_
      refine lv_icmp_ge (tgt := 57) hx hb dX1_addSubsets_4 (by decide) (fun c8 => ?_) (fun c8 => ?_)
      · have he := ifp he c8
        obtain rfl := some1 he
        exact cRv hx hb hr hlk hK hP hD hS dX1_addSubsets_57
      · have he := ifn he c8
        refine lv_iconst (v := 0) hx hb dX1_addSubsets_7 (by decide) ?_
        refine lv_istore_n (lv' := [(3, .int 0), (0, .ref (c 0)), (1, .int x1), (2, .int x2)]) hx hb dX1_addSubsets_8 rfl hl (by decide) rfl (fun ls hl => ?_)
        exact B9 600 x1 x2 0 F he H locs hP hD hS ls (lv_sub hl [1, 2, 3, 0] rfl)
  have hS0 := hS
  have key : ∀ (H : Heap) (locs : List Loc), H = ss.heap → locs = [] → va_P D vwCl (wChoice k c h a P X C F_0) H → va_S (va_A (wChoice k c h a P X C F_0) ss.heap.size) ss.heap H locs → W pp l ee ({ frames := 0, cells := 0, slots := 0, locals := 0 } : Room) ss mm ([.ref (c 0), .int p1] : List Value).toArray bl me co H locs 0 0 (MQ bl (cQv D k (wChoice k c h a P X C F_0) ss.heap.size (wChoice k c h a P X C F')) ([.ref (c 0), .int p1] : List Value).toArray ss 0 0 (va_A (wChoice k c h a P X C F_0) ss.heap.size)) (F0 mm 0 ls []) := by
    intro H locs _ _ hP hS
    refine lv_iconst (v := 0) hx hb dX1_addSubsets_0 (by decide) ?_
    refine lv_istore_n (lv' := [(2, .int 0), (0, .ref (c 0)), (1, .int p1)]) hx hb dX1_addSubsets_1 rfl hl (by decide) rfl (fun ls hl => ?_)
    exact B2 600 p1 0 F_0 he H locs hP hD hS ls (lv_sub hl [1, 2, 0] rfl)
  exact key ss.heap [] rfl rfl hP hS
theorem kX1_weigh : yX1_weigh.cls = RX1 ∧ yX1_weigh.cls ≠ "java/lang/invoke/MethodHandle" ∧ yX1_weigh.cls ≠ "java/lang/invoke/VarHandle" ∧ (parseMethodDescriptor yX1_weigh.desc).map (fun d => d.parameters.length) = some 1 := by decide +kernel
set_option maxRecDepth 100000 in
set_option maxHeartbeats 4000000 in
theorem mX1_weigh (l : Launch) (D : va_G) (k : Nat → ClassId) (c : Nat → Nat) (h : Nat → Nat) (a : Nat → Nat) {P : Nat → Nat → Int32} {X_0 : Nat → Int32} {C_0 : Nat → Int32} {F_0 : Nat → Int64} {p1 : Int32} {X' : Nat → Int32} {C' : Nat → Int32} {F' : Nat → Int64} (he : xX1_weigh P X_0 C_0 F_0 p1 = some (X', C', F')) : CtV l D k yX1_weigh wsX1_weigh ({ frames := 4, cells := 0, slots := 0, locals := 89 } : Room) [.ref (c 0), .int p1] (wChoice k c h a P X_0 C_0 F_0) (wChoice k c h a P X' C' F') := by
  intro sz9
  refine cSt (lv := [(0, .ref (c 0)), (1, .int p1)]) (own := RX1) (cc := cX1_weigh) (nL := 5) (ret := none) (by decide +kernel) rfl rfl (Nat.le_of_ble_eq_true rfl) rfl ?_
  intro pp ee ss mm bl me co hsz hC0 hP hD hS ls hl
  subst hsz
  obtain ⟨hx, hb, hr, hml, hown, hts, hK, hlk⟩ := hC0
  have hA : ∀ q, ss.heap.size ≤ q → va_A (wChoice k c h a P X_0 C_0 F_0) ss.heap.size q := fun q h => Or.inr h
  have iX1 : ∀ w ∈ wsX10, w ∈ wsX1_weigh := fun _ h => List.mem_cons_of_mem _ (List.mem_append_left _ (List.mem_append_left _ (List.mem_append_right _ h)))
  have w2 := hts (.fieldLink RX1 20 "DeadListPool$Choice" "holders" "LDeadListPool$Holders;") (List.mem_of_getElem? (i := 2) rfl)
  have w1 := hts (.fieldLink RX1 28 "DeadListPool$Choice" "freed" "[J") (List.mem_of_getElem? (i := 1) rfl)
  have w3 := hts (.fieldLink RX1 9 "DeadListPool$Choice" "pool" "LDeadListPool$Pool;") (List.mem_of_getElem? (i := 3) rfl)
  have B37 : ∀ (n37 : Nat) (x2 : Int32) (x3 : Int32) (X : Nat → Int32) (C : Nat → Int32) (F : Nat → Int64), xX1_weigh_37 P n37 x2 x3 X C F = some (X', C', F') → ∀ (H : Heap) (locs : List Loc), va_P D vwCl (wChoice k c h a P X C F) H → va_D (va_A (wChoice k c h a P X_0 C_0 F_0) ss.heap.size) (wChoice k c h a P X C F) → va_S (va_A (wChoice k c h a P X_0 C_0 F_0) ss.heap.size) ss.heap H locs → ∀ ls : Array Slot, lv_has ls 5 [(0, .ref (c 0)), (2, .int x2), (3, .int x3)] → W pp l ee ({ frames := 4, cells := 0, slots := 0, locals := 89 } : Room) ss mm ([.ref (c 0), .int p1] : List Value).toArray bl me co H locs 0 0 (MQ bl (cQv D k (wChoice k c h a P X_0 C_0 F_0) ss.heap.size (wChoice k c h a P X' C' F')) ([.ref (c 0), .int p1] : List Value).toArray ss 0 0 (va_A (wChoice k c h a P X_0 C_0 F_0) ss.heap.size)) (F0 mm 37 ls []) := by
    intro n37
    induction n37 with
    | zero =>
      intro x2 x3 X C F he
      exact absurd (show (none : Option ((Nat → Int32) × (Nat → Int32) × (Nat → Int64))) = some (X', C', F') from he) (by simp)
    | succ n37 ih37 =>
      intro x2 x3 X C F he H locs hP hD hS ls hl
      refine lv_iload_n hx hb dX1_weigh_37 rfl (lv_at hl 2 rfl) ?_
      refine lv_bipush (v := 96) hx hb dX1_weigh_38 (by decide) ?_
      refine lv_icmp_ge (tgt := 97) hx hb dX1_weigh_40 (by decide) (fun c1 => ?_) (fun c1 => ?_)
      · have he := ifp he c1
        refine lv_aload_n hx hb dX1_weigh_97 rfl (lv_at hl 0 rfl) ?_
        refine lv_iload_n hx hb dX1_weigh_98 rfl (lv_at hl 1 rfl) ?_
        obtain ⟨F2, h3, he⟩ := bn1_i he
        refine cVv (wf := (wChoice k c h a P X C F2)) (As := [.int x2]) (rest := []) ⟨hx, hb, hml, hown, hts⟩ hK hA hP hD hS (mX1_addSubsets l D k c h a (P := P) (X := X) (C := C) (F_0 := F) h3) (cwV 1 hts gX1_weigh_X1_addSubsets rfl rfl rfl kX1_addSubsets ⟨Nat.le_of_ble_eq_true rfl, Nat.le_of_ble_eq_true rfl⟩) [0, 1, 2, 3, 4, 5, 6, 7, 8, 9, 10, 11, 12, 13, 14] rfl rfl rfl [false, false, false, false, false, false, false, false, false, false, false, false, false, false, false] trivial 15 rfl (by decide +kernel) rfl 0 rfl rfl rfl hl.1 rfl (Nat.le_of_ble_eq_true rfl) ⟨Nat.le_refl 0, Nat.le_refl 0⟩ dX1_weigh_99 (fun H locs hP hD hS => ?_)
        obtain ⟨rfl, rfl, rfl⟩ := some3 he
        exact cRv hx hb hr hlk hK hP hD hS dX1_weigh_102
      · have he := ifn he c1
        refine lv_aload_n hx hb dX1_weigh_43 rfl (lv_at hl 0 rfl) ?_
        refine lv_aload_n hx hb dX1_weigh_44 rfl (lv_at hl 0 rfl) ?_
        refine va_get (D := D) (ci := 1) (v := .ref (h 0)) (C := RX1) (T := TX1) (N := 4) hx hb hts iX1 hown hK hP 0 rfl rfl 1 (by decide) w2 (fun _ h9 => h9) rfl dX1_weigh_45 ?_
        refine lv_iload_n hx hb dX1_weigh_48 rfl (lv_at hl 2 rfl) ?_
        obtain ⟨v4, h5, he⟩ := bn1_i he
        refine cVir (As := [.int x3]) (rest := [.ref (c 0)]) ⟨hx, hb, hml, hown, hts⟩ hK hA hP hD hS (mX2_setOf l D k h a (P := P) (X := X) h5) (cwV 1 hts gX1_weigh_X2_setOf rfl rfl rfl kX2_setOf ⟨Nat.le_of_ble_eq_true rfl, Nat.le_of_ble_eq_true rfl⟩) [3, 4, 5, 6, 7, 8, 9, 10, 11, 12, 13, 14] rfl rfl 0 rfl rfl rfl hl.1 rfl (Nat.le_of_ble_eq_true rfl) ⟨Nat.le_refl 0, Nat.le_refl 0⟩ dX1_weigh_49 (fun H locs hP hD hS => ?_)
        refine lv_iload_n hx hb dX1_weigh_52 rfl (lv_at hl 1 rfl) ?_
        obtain ⟨v6, h7, he⟩ := bn1_i he
        refine cVir (As := [.int v4, .int x2]) (rest := []) ⟨hx, hb, hml, hown, hts⟩ hK hA hP hD hS (mX1_candidatesAlone l D k c h a (P := P) (X := X) (C := C) (F := F) h7) (cwV 2 hts gX1_weigh_X1_candidatesAlone rfl rfl rfl kX1_candidatesAlone ⟨Nat.le_of_ble_eq_true rfl, Nat.le_of_ble_eq_true rfl⟩) [0, 1, 2, 3, 4, 5, 6, 7, 8, 9, 10, 11, 12, 13, 14] rfl rfl 0 rfl rfl rfl hl.1 rfl (Nat.le_of_ble_eq_true rfl) ⟨Nat.le_refl 0, Nat.le_refl 0⟩ dX1_weigh_53 (fun H locs hP hD hS => ?_)
        refine lv_istore (lv' := [(4, .int v6), (0, .ref (c 0)), (2, .int x2), (3, .int x3)]) hx hb dX1_weigh_56 hl (by decide) rfl (fun ls hl => ?_)
        refine lv_iload hx hb dX1_weigh_58 (lv_at hl 0 rfl) ?_
        refine lv_iconst (v := (-1)) hx hb dX1_weigh_60 (by decide) ?_
        refine lv_icmp_eq (tgt := 91) hx hb dX1_weigh_61 (by decide) (fun c8 => ?_) (fun c8 => ?_)
        · have he := ifp he c8
          refine lv_iinc (v := (x3 + 1)) (lv' := [(3, .int (x3 + 1)), (4, .int v6), (0, .ref (c 0)), (2, .int x2)]) hx hb dX1_weigh_91 hl (k := 3) rfl rfl (by decide) rfl (fun ls hl => ?_)
          refine lv_goto (tgt := 37) hx hb dX1_weigh_94 (by decide) ?_
          exact ih37 x2 (x3 + 1) X C F he H locs hP hD hS ls (lv_sub hl [2, 3, 0] rfl)
        · have he := ifn he c8
          refine lv_iload hx hb dX1_weigh_64 (lv_at hl 0 rfl) ?_
          refine lv_sipush (v := 256) hx hb dX1_weigh_66 (by decide) ?_
          refine lv_icmp_ge (tgt := 91) hx hb dX1_weigh_69 (by decide) (fun c9 => ?_) (fun c9 => ?_)
          · have he := ifp he c9
            refine lv_iinc (v := (x3 + 1)) (lv' := [(3, .int (x3 + 1)), (4, .int v6), (0, .ref (c 0)), (2, .int x2)]) hx hb dX1_weigh_91 hl (k := 3) rfl rfl (by decide) rfl (fun ls hl => ?_)
            refine lv_goto (tgt := 37) hx hb dX1_weigh_94 (by decide) ?_
            exact ih37 x2 (x3 + 1) X C F he H locs hP hD hS ls (lv_sub hl [2, 3, 0] rfl)
          · have he := ifn he c9
            refine lv_aload_n hx hb dX1_weigh_72 rfl (lv_at hl 1 rfl) ?_
            refine va_get (D := D) (ci := 1) (v := .ref (c 2)) (C := RX1) (T := TX1) (N := 4) hx hb hts iX1 hown hK hP 0 rfl rfl 3 (by decide) w1 (fun _ h9 => h9) rfl dX1_weigh_73 ?_
            refine lv_iload hx hb dX1_weigh_76 (lv_at hl 0 rfl) ?_
            refine lv_dup2_11 hx hb dX1_weigh_78 rfl rfl ?_
            obtain ⟨h10, he⟩ := grd_i he
            refine va_lald hx hb hK hP 2 1 rfl rfl (ix_in h10) dX1_weigh_79 ?_
            refine lv_aload_n hx hb dX1_weigh_80 rfl (lv_at hl 1 rfl) ?_
            refine va_get (D := D) (ci := 1) (v := .ref (a 0)) (C := RX1) (T := TX1) (N := 4) hx hb hts iX1 hown hK hP 0 rfl rfl 0 (by decide) w3 (fun _ h9 => h9) rfl dX1_weigh_81 ?_
            refine lv_iload_n hx hb dX1_weigh_84 rfl (lv_at hl 3 rfl) ?_
            obtain ⟨v11, h12, he⟩ := bn1_i he
            refine cVir (As := [.int x3]) (rest := [.long (F (Int32.toNatClampNeg v6)), .int v6, .ref (c 2)]) ⟨hx, hb, hml, hown, hts⟩ hK hA hP hD hS (mX4_sizeOf l D k a (P := P) h12) (cwV 1 hts gX1_weigh_X4_sizeOf rfl rfl rfl kX4_sizeOf ⟨Nat.le_of_ble_eq_true rfl, Nat.le_of_ble_eq_true rfl⟩) [5, 6, 7, 8, 9, 10, 11, 12, 13, 14] rfl rfl 0 rfl rfl rfl hl.1 rfl (Nat.le_of_ble_eq_true rfl) ⟨Nat.le_refl 0, Nat.le_refl 0⟩ dX1_weigh_85 (fun H locs hP hD hS => ?_)
            refine lv_i2l (v := (Int32.toInt64 v11)) hx hb dX1_weigh_88 rfl ?_
            refine lv_ladd hx hb dX1_weigh_89 ?_
            obtain ⟨h13, he⟩ := grd_i he
            obtain ⟨F14, e15, he⟩ := lt_i he
            refine va_last hx hb hK hP hD hS 2 1 rfl rfl (ix_in h13) dX1_weigh_90 (fun H locs hP hD hS => ?_)
            have hP : va_P D vwCl (wChoice k c h a P X C F14) H := by rw [e15]; exact hP
            have hD : va_D _ (wChoice k c h a P X C F14) := va_D_adr (by rw [e15]; rfl) hD
            refine lv_iinc (v := (x3 + 1)) (lv' := [(3, .int (x3 + 1)), (4, .int v6), (0, .ref (c 0)), (2, .int x2)]) hx hb dX1_weigh_91 hl (k := 3) rfl rfl (by decide) rfl (fun ls hl => ?_)
            refine lv_goto (tgt := 37) hx hb dX1_weigh_94 (by decide) ?_
            exact ih37 x2 (x3 + 1) X C F14 he H locs hP hD hS ls (lv_sub hl [2, 3, 0] rfl)
  have B8 : ∀ (n8 : Nat) (x2 : Int32) (x3 : Int32) (X : Nat → Int32) (C : Nat → Int32) (F : Nat → Int64), xX1_weigh_8 P n8 x2 x3 X C F = some (X', C', F') → ∀ (H : Heap) (locs : List Loc), va_P D vwCl (wChoice k c h a P X C F) H → va_D (va_A (wChoice k c h a P X_0 C_0 F_0) ss.heap.size) (wChoice k c h a P X C F) → va_S (va_A (wChoice k c h a P X_0 C_0 F_0) ss.heap.size) ss.heap H locs → ∀ ls : Array Slot, lv_has ls 5 [(0, .ref (c 0)), (2, .int x2), (3, .int x3)] → W pp l ee ({ frames := 4, cells := 0, slots := 0, locals := 89 } : Room) ss mm ([.ref (c 0), .int p1] : List Value).toArray bl me co H locs 0 0 (MQ bl (cQv D k (wChoice k c h a P X_0 C_0 F_0) ss.heap.size (wChoice k c h a P X' C' F')) ([.ref (c 0), .int p1] : List Value).toArray ss 0 0 (va_A (wChoice k c h a P X_0 C_0 F_0) ss.heap.size)) (F0 mm 8 ls []) := by
    intro n8
    induction n8 with
    | zero =>
      intro x2 x3 X C F he
      exact absurd (show (none : Option ((Nat → Int32) × (Nat → Int32) × (Nat → Int64))) = some (X', C', F') from he) (by simp)
    | succ n8 ih8 =>
      intro x2 x3 X C F he H locs hP hD hS ls hl
      refine lv_iload_n hx hb dX1_weigh_8 rfl (lv_at hl 2 rfl) ?_
      refine lv_sipush (v := 256) hx hb dX1_weigh_9 (by decide) ?_
      refine lv_icmp_ge (tgt := 28) hx hb dX1_weigh_12 (by decide) (fun c16 => ?_) (fun c16 => ?_)
      · have he := ifp he c16
        refine lv_aload_n hx hb dX1_weigh_28 rfl (lv_at hl 0 rfl) ?_
        refine va_get (D := D) (ci := 1) (v := .ref (h 0)) (C := RX1) (T := TX1) (N := 4) hx hb hts iX1 hown hK hP 0 rfl rfl 1 (by decide) w2 (fun _ h9 => h9) rfl dX1_weigh_29 ?_
        obtain ⟨X17, h18, he⟩ := bn1_i he
        refine cVv (wf := (wChoice k c h a P X17 C F)) (As := []) (rest := []) ⟨hx, hb, hml, hown, hts⟩ hK hA hP hD hS (mX2_look l D k h a (P := P) (X_0 := X) h18) (cwV 0 hts gX1_weigh_X2_look rfl rfl rfl kX2_look ⟨Nat.le_of_ble_eq_true rfl, Nat.le_of_ble_eq_true rfl⟩) [3, 4, 5, 6, 7, 8, 9, 10, 11, 12, 13, 14] rfl rfl rfl [true, true, true, false, false, false, false, false, false, false, false, false, false, false, false] ⟨rfl, rfl, rfl, trivial⟩ 15 rfl (by decide +kernel) rfl 0 rfl rfl rfl hl.1 rfl (Nat.le_of_ble_eq_true rfl) ⟨Nat.le_refl 0, Nat.le_refl 0⟩ dX1_weigh_32 (fun H locs hP hD hS => ?_)
        refine lv_iconst (v := 0) hx hb dX1_weigh_35 (by decide) ?_
        refine lv_istore_n (lv' := [(3, .int 0), (0, .ref (c 0)), (2, .int x2)]) hx hb dX1_weigh_36 rfl hl (by decide) rfl (fun ls hl => ?_)
        exact B37 600 x2 0 X17 C F he H locs hP hD hS ls (lv_sub hl [1, 2, 0] rfl)
      · have he := ifn he c16
        refine lv_aload_n hx hb dX1_weigh_15 rfl (lv_at hl 0 rfl) ?_
        refine va_get (D := D) (ci := 1) (v := .ref (c 2)) (C := RX1) (T := TX1) (N := 4) hx hb hts iX1 hown hK hP 0 rfl rfl 3 (by decide) w1 (fun _ h9 => h9) rfl dX1_weigh_16 ?_
        refine lv_iload_n hx hb dX1_weigh_19 rfl (lv_at hl 2 rfl) ?_
        refine lv_lconst (v := 0) hx hb dX1_weigh_20 (by decide) ?_
        obtain ⟨h19, he⟩ := grd_i he
        obtain ⟨F20, e21, he⟩ := lt_i he
        refine va_last hx hb hK hP hD hS 2 1 rfl rfl (ix_in h19) dX1_weigh_21 (fun H locs hP hD hS => ?_)
        have hP : va_P D vwCl (wChoice k c h a P X C F20) H := by rw [e21]; exact hP
        have hD : va_D _ (wChoice k c h a P X C F20) := va_D_adr (by rw [e21]; rfl) hD
        refine lv_iinc (v := (x3 + 1)) (lv' := [(3, .int (x3 + 1)), (0, .ref (c 0)), (2, .int x2)]) hx hb dX1_weigh_22 hl (k := 2) rfl rfl (by decide) rfl (fun ls hl => ?_)
        refine lv_goto (tgt := 8) hx hb dX1_weigh_25 (by decide) ?_
        exact ih8 x2 (x3 + 1) X C F20 he H locs hP hD hS ls (lv_sub hl [1, 2, 0] rfl)
  have hS0 := hS
  have key : ∀ (H : Heap) (locs : List Loc), H = ss.heap → locs = [] → va_P D vwCl (wChoice k c h a P X_0 C_0 F_0) H → va_S (va_A (wChoice k c h a P X_0 C_0 F_0) ss.heap.size) ss.heap H locs → W pp l ee ({ frames := 4, cells := 0, slots := 0, locals := 89 } : Room) ss mm ([.ref (c 0), .int p1] : List Value).toArray bl me co H locs 0 0 (MQ bl (cQv D k (wChoice k c h a P X_0 C_0 F_0) ss.heap.size (wChoice k c h a P X' C' F')) ([.ref (c 0), .int p1] : List Value).toArray ss 0 0 (va_A (wChoice k c h a P X_0 C_0 F_0) ss.heap.size)) (F0 mm 0 ls []) := by
    intro H locs _ _ hP hS
    refine lv_aload_n hx hb dX1_weigh_0 rfl (lv_at hl 0 rfl) ?_
    refine lv_iload_n hx hb dX1_weigh_1 rfl (lv_at hl 1 rfl) ?_
    obtain ⟨v1001, C1002, h1003, he⟩ := bn2_i he
    refine cVi (wf := (wChoice k c h a P X_0 C1002 F_0)) (As := [.int p1]) (rest := []) ⟨hx, hb, hml, hown, hts⟩ hK hA hP hD hS (mX1_findCandidates l D k c h a (P := P) (X := X_0) (C_0 := C_0) (F := F_0) h1003) (cwV 1 hts gX1_weigh_X1_findCandidates rfl rfl rfl kX1_findCandidates ⟨Nat.le_of_ble_eq_true rfl, Nat.le_of_ble_eq_true rfl⟩) [0, 1, 2, 3, 4, 5, 6, 7, 8, 9, 10, 11, 12, 13, 14] rfl rfl rfl [false, false, false, false, false, false, false, false, false, false, false, false, false, false, false] trivial 15 rfl (by decide +kernel) rfl 0 rfl rfl rfl hl.1 rfl (Nat.le_of_ble_eq_true rfl) ⟨Nat.le_refl 0, Nat.le_refl 0⟩ dX1_weigh_2 (fun H locs hP hD hS => ?_)
    refine lv_istore_n (lv' := [(2, .int v1001), (0, .ref (c 0)), (1, .int p1)]) hx hb dX1_weigh_5 rfl hl (by decide) rfl (fun ls hl => ?_)
    refine lv_iconst (v := 0) hx hb dX1_weigh_6 (by decide) ?_
    refine lv_istore_n (lv' := [(3, .int 0), (2, .int v1001), (0, .ref (c 0)), (1, .int p1)]) hx hb dX1_weigh_7 rfl hl (by decide) rfl (fun ls hl => ?_)
    exact B8 600 v1001 0 X_0 C1002 F_0 he H locs hP hD hS ls (lv_sub hl [2, 1, 0] rfl)
  exact key ss.heap [] rfl rfl hP hS
theorem kX1_mostFreed : yX1_mostFreed.cls = RX1 ∧ yX1_mostFreed.cls ≠ "java/lang/invoke/MethodHandle" ∧ yX1_mostFreed.cls ≠ "java/lang/invoke/VarHandle" ∧ (parseMethodDescriptor yX1_mostFreed.desc).map (fun d => d.parameters.length) = some 2 := by decide +kernel
set_option maxRecDepth 100000 in
set_option maxHeartbeats 4000000 in
theorem mX1_mostFreed (l : Launch) (D : va_G) (k : Nat → ClassId) (c : Nat → Nat) (h : Nat → Nat) (a : Nat → Nat) {P : Nat → Nat → Int32} {X_0 : Nat → Int32} {C_0 : Nat → Int32} {F_0 : Nat → Int64} {p1 : Int32} {p2 : Int32} {r : Int64} {X' : Nat → Int32} {C' : Nat → Int32} {F' : Nat → Int64} (he : xX1_mostFreed P X_0 C_0 F_0 p1 p2 = some (r, X', C', F')) : CtL l D k yX1_mostFreed wsX1_mostFreed ({ frames := 5, cells := 0, slots := 0, locals := 113 } : Room) [.ref (c 0), .int p1, .int p2] (wChoice k c h a P X_0 C_0 F_0) r (wChoice k c h a P X' C' F') := by
  intro sz9
  refine cSt (lv := [(0, .ref (c 0)), (1, .int p1), (2, .int p2)]) (own := RX1) (cc := cX1_mostFreed) (nL := 6) (ret := (some .long)) (by decide +kernel) rfl rfl (Nat.le_of_ble_eq_true rfl) rfl ?_
  intro pp ee ss mm bl me co hsz hC0 hP hD hS ls hl
  subst hsz
  obtain ⟨hx, hb, hr, hml, hown, hts, hK, hlk⟩ := hC0
  have hA : ∀ q, ss.heap.size ≤ q → va_A (wChoice k c h a P X_0 C_0 F_0) ss.heap.size q := fun q h => Or.inr h
  have iX1 : ∀ w ∈ wsX10, w ∈ wsX1_mostFreed := fun _ h => List.mem_cons_of_mem _ (List.mem_append_left _ (List.mem_append_left _ (List.mem_append_right _ h)))
  have w1 := hts (.fieldLink RX1 28 "DeadListPool$Choice" "freed" "[J") (List.mem_of_getElem? (i := 1) rfl)
  have w2 := hts (.methodLink RX1 42 Lib.MathLoose.max_long.x) (List.mem_of_getElem? (i := 2) rfl)
  have w3 := hts (.static Lib.MathLoose.max_long.x) (List.mem_of_getElem? (i := 3) rfl)
  have w4 := hts (.initialized "java/lang/Math") (List.mem_of_getElem? (i := 4) rfl)
  have w5 := hts (.code Lib.MathLoose.max_long.x Lib.MathLoose.max_long.code 4 (some .long)) (List.mem_of_getElem? (i := 5) rfl)
  have B10 : ∀ (n10 : Nat) (x2 : Int32) (x3 : Int64) (x5 : Int32) (X : Nat → Int32) (C : Nat → Int32) (F : Nat → Int64), xX1_mostFreed_10 P n10 x2 x3 x5 X C F = some (r, X', C', F') → ∀ (H : Heap) (locs : List Loc), va_P D vwCl (wChoice k c h a P X C F) H → va_D (va_A (wChoice k c h a P X_0 C_0 F_0) ss.heap.size) (wChoice k c h a P X C F) → va_S (va_A (wChoice k c h a P X_0 C_0 F_0) ss.heap.size) ss.heap H locs → ∀ ls : Array Slot, lv_has ls 6 [(0, .ref (c 0)), (2, .int x2), (3, .long x3), (5, .int x5)] → W pp l ee ({ frames := 5, cells := 0, slots := 0, locals := 113 } : Room) ss mm ([.ref (c 0), .int p1, .int p2] : List Value).toArray bl me co H locs 0 0 (MQ bl (cQl D k (wChoice k c h a P X_0 C_0 F_0) ss.heap.size r (wChoice k c h a P X' C' F')) ([.ref (c 0), .int p1, .int p2] : List Value).toArray ss 0 0 (va_A (wChoice k c h a P X_0 C_0 F_0) ss.heap.size)) (F0 mm 10 ls []) := by
    intro n10
    induction n10 with
    | zero =>
      intro x2 x3 x5 X C F he
      exact absurd (show (none : Option (Int64 × (Nat → Int32) × (Nat → Int32) × (Nat → Int64))) = some (r, X', C', F') from he) (by simp)
    | succ n10 ih10 =>
      intro x2 x3 x5 X C F he H locs hP hD hS ls hl
      refine lv_iload hx hb dX1_mostFreed_10 (lv_at hl 3 rfl) ?_
      refine lv_sipush (v := 256) hx hb dX1_mostFreed_12 (by decide) ?_
      refine lv_icmp_ge (tgt := 45) hx hb dX1_mostFreed_15 (by decide) (fun c1 => ?_) (fun c1 => ?_)
      · have he := ifp he c1
        refine lv_lload_n hx hb dX1_mostFreed_45 rfl (lv_at hl 2 rfl) ?_
        obtain ⟨rfl, rfl, rfl, rfl⟩ := some4 he
        exact cRl hx hb hr hlk hK hP hD hS dX1_mostFreed_46
      · have he := ifn he c1
        refine lv_iload hx hb dX1_mostFreed_18 (lv_at hl 3 rfl) ?_
        obtain ⟨v2, h3, he⟩ := bn1_i he
        refine cSi (rest := []) ⟨hx, hb, hml, hown, hts⟩ hK hA hP hD hS (mJ6_bitCount_0f7a4 l D k h3) (va_cwS 1 hts gX1_mostFreed_J6_bitCount_0f7a4 rfl rfl rfl kJ6_bitCount_0f7a4 ⟨Nat.le_of_ble_eq_true rfl, Nat.le_of_ble_eq_true rfl⟩) rfl hl.1 rfl (Nat.le_of_ble_eq_true rfl) ⟨Nat.le_refl 0, Nat.le_refl 0⟩ dX1_mostFreed_20 (fun H locs hP hD hS => ?_)
        refine lv_iload_n hx hb dX1_mostFreed_23 rfl (lv_at hl 1 rfl) ?_
        refine lv_icmp_gt (tgt := 39) hx hb dX1_mostFreed_24 (by decide) (fun c4 => ?_) (fun c4 => ?_)
        · have he := ifp he c4
          refine lv_iinc (v := (x5 + 1)) (lv' := [(5, .int (x5 + 1)), (0, .ref (c 0)), (2, .int x2), (3, .long x3)]) hx hb dX1_mostFreed_39 hl (k := 3) rfl rfl (by decide) rfl (fun ls hl => ?_)
          refine lv_goto (tgt := 10) hx hb dX1_mostFreed_42 (by decide) ?_
          exact ih10 x2 x3 (x5 + 1) X C F he H locs hP hD hS ls (lv_sub hl [1, 2, 3, 0] rfl)
        · have he := ifn he c4
          refine lv_lload_n hx hb dX1_mostFreed_27 rfl (lv_at hl 2 rfl) ?_
          refine lv_aload_n hx hb dX1_mostFreed_28 rfl (lv_at hl 0 rfl) ?_
          refine va_get (D := D) (ci := 1) (v := .ref (c 2)) (C := RX1) (T := TX1) (N := 4) hx hb hts iX1 hown hK hP 0 rfl rfl 3 (by decide) w1 (fun _ h9 => h9) rfl dX1_mostFreed_29 ?_
          refine lv_iload hx hb dX1_mostFreed_32 (lv_at hl 3 rfl) ?_
          obtain ⟨h5, he⟩ := grd_i he
          refine va_lald hx hb hK hP 2 1 rfl rfl (ix_in h5) dX1_mostFreed_34 ?_
          refine va_mmax_long hx hb (hml.trans hl.1.symm) hown w2 w3 w4 w5 (Nat.le_of_ble_eq_true rfl) (Nat.le_of_ble_eq_true rfl) (Nat.le_refl 0) (Nat.le_refl 0) dX1_mostFreed_35 ?_
          refine lv_lstore_n (lv' := [(3, .long (if (F (Int32.toNatClampNeg x5)) < x3 then x3 else (F (Int32.toNatClampNeg x5)))), (0, .ref (c 0)), (2, .int x2), (5, .int x5)]) hx hb dX1_mostFreed_38 rfl hl (by decide) rfl (fun ls hl => ?_)
          refine lv_iinc (v := (x5 + 1)) (lv' := [(5, .int (x5 + 1)), (3, .long (if (F (Int32.toNatClampNeg x5)) < x3 then x3 else (F (Int32.toNatClampNeg x5)))), (0, .ref (c 0)), (2, .int x2)]) hx hb dX1_mostFreed_39 hl (k := 3) rfl rfl (by decide) rfl (fun ls hl => ?_)
          refine lv_goto (tgt := 10) hx hb dX1_mostFreed_42 (by decide) ?_
          exact ih10 x2 (if (F (Int32.toNatClampNeg x5)) < x3 then x3 else (F (Int32.toNatClampNeg x5))) (x5 + 1) X C F he H locs hP hD hS ls (lv_sub hl [2, 3, 1, 0] rfl)
  have hS0 := hS
  have key : ∀ (H : Heap) (locs : List Loc), H = ss.heap → locs = [] → va_P D vwCl (wChoice k c h a P X_0 C_0 F_0) H → va_S (va_A (wChoice k c h a P X_0 C_0 F_0) ss.heap.size) ss.heap H locs → W pp l ee ({ frames := 5, cells := 0, slots := 0, locals := 113 } : Room) ss mm ([.ref (c 0), .int p1, .int p2] : List Value).toArray bl me co H locs 0 0 (MQ bl (cQl D k (wChoice k c h a P X_0 C_0 F_0) ss.heap.size r (wChoice k c h a P X' C' F')) ([.ref (c 0), .int p1, .int p2] : List Value).toArray ss 0 0 (va_A (wChoice k c h a P X_0 C_0 F_0) ss.heap.size)) (F0 mm 0 ls []) := by
    intro H locs _ _ hP hS
    refine lv_aload_n hx hb dX1_mostFreed_0 rfl (lv_at hl 0 rfl) ?_
    refine lv_iload_n hx hb dX1_mostFreed_1 rfl (lv_at hl 1 rfl) ?_
    obtain ⟨X1001, C1002, F1003, h1004, he⟩ := bn3_i he
    refine cVv (wf := (wChoice k c h a P X1001 C1002 F1003)) (As := [.int p1]) (rest := []) ⟨hx, hb, hml, hown, hts⟩ hK hA hP hD hS (mX1_weigh l D k c h a (P := P) (X_0 := X_0) (C_0 := C_0) (F_0 := F_0) h1004) (cwV 1 hts gX1_mostFreed_X1_weigh rfl rfl rfl kX1_weigh ⟨Nat.le_of_ble_eq_true rfl, Nat.le_of_ble_eq_true rfl⟩) [0, 1, 2, 3, 4, 5, 6, 7, 8, 9, 10, 11, 12, 13, 14] rfl rfl rfl [false, false, false, false, false, false, false, false, false, false, false, false, false, false, false] trivial 15 rfl (by decide +kernel) rfl 0 rfl rfl rfl hl.1 rfl (Nat.le_of_ble_eq_true rfl) ⟨Nat.le_refl 0, Nat.le_refl 0⟩ dX1_mostFreed_2 (fun H locs hP hD hS => ?_)
    refine lv_lconst (v := 0) hx hb dX1_mostFreed_5 (by decide) ?_
    refine lv_lstore_n (lv' := [(3, .long 0), (0, .ref (c 0)), (1, .int p1), (2, .int p2)]) hx hb dX1_mostFreed_6 rfl hl (by decide) rfl (fun ls hl => ?_)
    refine lv_iconst (v := 0) hx hb dX1_mostFreed_7 (by decide) ?_
    refine lv_istore (lv' := [(5, .int 0), (3, .long 0), (0, .ref (c 0)), (1, .int p1), (2, .int p2)]) hx hb dX1_mostFreed_8 hl (by decide) rfl (fun ls hl => ?_)
    exact B10 600 p2 0 0 X1001 C1002 F1003 he H locs hP hD hS ls (lv_sub hl [2, 4, 1, 0] rfl)
  exact key ss.heap [] rfl rfl hP hS
theorem kX1_fewestFor : yX1_fewestFor.cls = RX1 ∧ yX1_fewestFor.cls ≠ "java/lang/invoke/MethodHandle" ∧ yX1_fewestFor.cls ≠ "java/lang/invoke/VarHandle" ∧ (parseMethodDescriptor yX1_fewestFor.desc).map (fun d => d.parameters.length) = some 2 := by decide +kernel
set_option maxRecDepth 100000 in
set_option maxHeartbeats 4000000 in
theorem mX1_fewestFor (l : Launch) (D : va_G) (k : Nat → ClassId) (c : Nat → Nat) (h : Nat → Nat) (a : Nat → Nat) {P : Nat → Nat → Int32} {X_0 : Nat → Int32} {C_0 : Nat → Int32} {F_0 : Nat → Int64} {p1 : Int32} {p2 : Int64} {r : Int32} {X' : Nat → Int32} {C' : Nat → Int32} {F' : Nat → Int64} (he : xX1_fewestFor P X_0 C_0 F_0 p1 p2 = some (r, X', C', F')) : CtI l D k yX1_fewestFor wsX1_fewestFor ({ frames := 5, cells := 0, slots := 0, locals := 113 } : Room) [.ref (c 0), .int p1, .long p2] (wChoice k c h a P X_0 C_0 F_0) r (wChoice k c h a P X' C' F') := by
  intro sz9
  refine cSt (lv := [(0, .ref (c 0)), (1, .int p1), (2, .long p2)]) (own := RX1) (cc := cX1_fewestFor) (nL := 7) (ret := (some .int)) (by decide +kernel) rfl rfl (Nat.le_of_ble_eq_true rfl) rfl ?_
  intro pp ee ss mm bl me co hsz hC0 hP hD hS ls hl
  subst hsz
  obtain ⟨hx, hb, hr, hml, hown, hts, hK, hlk⟩ := hC0
  have hA : ∀ q, ss.heap.size ≤ q → va_A (wChoice k c h a P X_0 C_0 F_0) ss.heap.size q := fun q h => Or.inr h
  have iX1 : ∀ w ∈ wsX10, w ∈ wsX1_fewestFor := fun _ h => List.mem_cons_of_mem _ (List.mem_append_left _ (List.mem_append_left _ (List.mem_append_right _ h)))
  have w1 := hts (.fieldLink RX1 28 "DeadListPool$Choice" "freed" "[J") (List.mem_of_getElem? (i := 1) rfl)
  have B19 : ∀ (n19 : Nat) (x2 : Int64) (x4 : Int32) (x5 : Int32) (X : Nat → Int32) (C : Nat → Int32) (F : Nat → Int64), xX1_fewestFor_19 P n19 x2 x4 x5 X C F = some (r, X', C', F') → ∀ (H : Heap) (locs : List Loc), va_P D vwCl (wChoice k c h a P X C F) H → va_D (va_A (wChoice k c h a P X_0 C_0 F_0) ss.heap.size) (wChoice k c h a P X C F) → va_S (va_A (wChoice k c h a P X_0 C_0 F_0) ss.heap.size) ss.heap H locs → ∀ ls : Array Slot, lv_has ls 7 [(0, .ref (c 0)), (2, .long x2), (4, .int x4), (5, .int x5)] → W pp l ee ({ frames := 5, cells := 0, slots := 0, locals := 113 } : Room) ss mm ([.ref (c 0), .int p1, .long p2] : List Value).toArray bl me co H locs 0 0 (MQ bl (cQi D k (wChoice k c h a P X_0 C_0 F_0) ss.heap.size r (wChoice k c h a P X' C' F')) ([.ref (c 0), .int p1, .long p2] : List Value).toArray ss 0 0 (va_A (wChoice k c h a P X_0 C_0 F_0) ss.heap.size)) (F0 mm 19 ls []) := by
    intro n19
    induction n19 with
    | zero =>
      intro x2 x4 x5 X C F he
      exact absurd (show (none : Option (Int32 × (Nat → Int32) × (Nat → Int32) × (Nat → Int64))) = some (r, X', C', F') from he) (by simp)
    | succ n19 ih19 =>
      intro x2 x4 x5 X C F he H locs hP hD hS ls hl
      refine lv_iload hx hb dX1_fewestFor_19 (lv_at hl 3 rfl) ?_
      refine lv_sipush (v := 256) hx hb dX1_fewestFor_21 (by decide) ?_
      refine lv_icmp_ge (tgt := 69) hx hb dX1_fewestFor_24 (by decide) (fun c1 => ?_) (fun c1 => ?_)
      · have he := ifp he c1
        refine lv_iload hx hb dX1_fewestFor_69 (lv_at hl 2 rfl) ?_
        obtain ⟨rfl, rfl, rfl, rfl⟩ := some4 he
        exact cRi hx hb hr hlk hK rfl hP hD hS dX1_fewestFor_71
      · have he := ifn he c1
        refine lv_iload hx hb dX1_fewestFor_27 (lv_at hl 3 rfl) ?_
        obtain ⟨v2, h3, he⟩ := bn1_i he
        refine cSi (rest := []) ⟨hx, hb, hml, hown, hts⟩ hK hA hP hD hS (mJ6_bitCount_0f7a4 l D k h3) (va_cwS 1 hts gX1_fewestFor_J6_bitCount_0f7a4 rfl rfl rfl kJ6_bitCount_0f7a4 ⟨Nat.le_of_ble_eq_true rfl, Nat.le_of_ble_eq_true rfl⟩) rfl hl.1 rfl (Nat.le_of_ble_eq_true rfl) ⟨Nat.le_refl 0, Nat.le_refl 0⟩ dX1_fewestFor_29 (fun H locs hP hD hS => ?_)
        refine lv_istore (lv' := [(6, .int v2), (0, .ref (c 0)), (2, .long x2), (4, .int x4), (5, .int x5)]) hx hb dX1_fewestFor_32 hl (by decide) rfl (fun ls hl => ?_)
        refine lv_aload_n hx hb dX1_fewestFor_34 rfl (lv_at hl 1 rfl) ?_
        refine va_get (D := D) (ci := 1) (v := .ref (c 2)) (C := RX1) (T := TX1) (N := 4) hx hb hts iX1 hown hK hP 0 rfl rfl 3 (by decide) w1 (fun _ h9 => h9) rfl dX1_fewestFor_35 ?_
        refine lv_iload hx hb dX1_fewestFor_38 (lv_at hl 4 rfl) ?_
        obtain ⟨h4, he⟩ := grd_i he
        refine va_lald hx hb hK hP 2 1 rfl rfl (ix_in h4) dX1_fewestFor_40 ?_
        refine lv_lload_n hx hb dX1_fewestFor_41 rfl (lv_at hl 2 rfl) ?_
        refine W.lcmp hx hb dX1_fewestFor_42 ?_
        refine lv_if_lt (tgt := 63) hx hb dX1_fewestFor_43 (by decide) (fun c5 => ?_) (fun c5 => ?_)
        · have he := ifp he c5
          refine lv_iinc (v := (x5 + 1)) (lv' := [(5, .int (x5 + 1)), (6, .int v2), (0, .ref (c 0)), (2, .long x2), (4, .int x4)]) hx hb dX1_fewestFor_63 hl (k := 4) rfl rfl (by decide) rfl (fun ls hl => ?_)
          refine lv_goto (tgt := 19) hx hb dX1_fewestFor_66 (by decide) ?_
          exact ih19 x2 x4 (x5 + 1) X C F he H locs hP hD hS ls (lv_sub hl [2, 3, 4, 0] rfl)
        · have he := ifn he c5
          refine lv_iload hx hb dX1_fewestFor_46 (lv_at hl 3 rfl) ?_
          refine lv_iconst (v := (-1)) hx hb dX1_fewestFor_48 (by decide) ?_
          refine lv_icmp_eq (tgt := 59) hx hb dX1_fewestFor_49 (by decide) (fun c6 => ?_) (fun c6 => ?_)
          · have he := ifp he c6
            refine lv_iload hx hb dX1_fewestFor_59 (lv_at hl 0 rfl) ?_
            refine lv_istore (lv' := [(4, .int v2), (6, .int v2), (0, .ref (c 0)), (2, .long x2), (5, .int x5)]) hx hb dX1_fewestFor_61 hl (by decide) rfl (fun ls hl => ?_)
            refine lv_iinc (v := (x5 + 1)) (lv' := [(5, .int (x5 + 1)), (4, .int v2), (6, .int v2), (0, .ref (c 0)), (2, .long x2)]) hx hb dX1_fewestFor_63 hl (k := 4) rfl rfl (by decide) rfl (fun ls hl => ?_)
            refine lv_goto (tgt := 19) hx hb dX1_fewestFor_66 (by decide) ?_
            exact ih19 x2 v2 (x5 + 1) X C F he H locs hP hD hS ls (lv_sub hl [3, 4, 1, 0] rfl)
          · have he := ifn he c6
            refine lv_iload hx hb dX1_fewestFor_52 (lv_at hl 0 rfl) ?_
            refine lv_iload hx hb dX1_fewestFor_54 (lv_at hl 3 rfl) ?_
            refine lv_icmp_ge (tgt := 63) hx hb dX1_fewestFor_56 (by decide) (fun c7 => ?_) (fun c7 => ?_)
            · have he := ifp he c7
              refine lv_iinc (v := (x5 + 1)) (lv' := [(5, .int (x5 + 1)), (6, .int v2), (0, .ref (c 0)), (2, .long x2), (4, .int x4)]) hx hb dX1_fewestFor_63 hl (k := 4) rfl rfl (by decide) rfl (fun ls hl => ?_)
              refine lv_goto (tgt := 19) hx hb dX1_fewestFor_66 (by decide) ?_
              exact ih19 x2 x4 (x5 + 1) X C F he H locs hP hD hS ls (lv_sub hl [2, 3, 4, 0] rfl)
            · have he := ifn he c7
              refine lv_iload hx hb dX1_fewestFor_59 (lv_at hl 0 rfl) ?_
              refine lv_istore (lv' := [(4, .int v2), (6, .int v2), (0, .ref (c 0)), (2, .long x2), (5, .int x5)]) hx hb dX1_fewestFor_61 hl (by decide) rfl (fun ls hl => ?_)
              refine lv_iinc (v := (x5 + 1)) (lv' := [(5, .int (x5 + 1)), (4, .int v2), (6, .int v2), (0, .ref (c 0)), (2, .long x2)]) hx hb dX1_fewestFor_63 hl (k := 4) rfl rfl (by decide) rfl (fun ls hl => ?_)
              refine lv_goto (tgt := 19) hx hb dX1_fewestFor_66 (by decide) ?_
              exact ih19 x2 v2 (x5 + 1) X C F he H locs hP hD hS ls (lv_sub hl [3, 4, 1, 0] rfl)
  have hS0 := hS
  have key : ∀ (H : Heap) (locs : List Loc), H = ss.heap → locs = [] → va_P D vwCl (wChoice k c h a P X_0 C_0 F_0) H → va_S (va_A (wChoice k c h a P X_0 C_0 F_0) ss.heap.size) ss.heap H locs → W pp l ee ({ frames := 5, cells := 0, slots := 0, locals := 113 } : Room) ss mm ([.ref (c 0), .int p1, .long p2] : List Value).toArray bl me co H locs 0 0 (MQ bl (cQi D k (wChoice k c h a P X_0 C_0 F_0) ss.heap.size r (wChoice k c h a P X' C' F')) ([.ref (c 0), .int p1, .long p2] : List Value).toArray ss 0 0 (va_A (wChoice k c h a P X_0 C_0 F_0) ss.heap.size)) (F0 mm 0 ls []) := by
    intro H locs _ _ hP hS
    refine lv_lload_n hx hb dX1_fewestFor_0 rfl (lv_at hl 2 rfl) ?_
    refine lv_lconst (v := 0) hx hb dX1_fewestFor_1 (by decide) ?_
    refine W.lcmp hx hb dX1_fewestFor_2 ?_
    refine lv_if_gt (tgt := 8) hx hb dX1_fewestFor_3 (by decide) (fun c1001 => ?_) (fun c1001 => ?_)
    · have he := ifp he c1001
      refine lv_aload_n hx hb dX1_fewestFor_8 rfl (lv_at hl 0 rfl) ?_
      refine lv_iload_n hx hb dX1_fewestFor_9 rfl (lv_at hl 1 rfl) ?_
      obtain ⟨X1002, C1003, F1004, h1005, he⟩ := bn3_i he
      refine cVv (wf := (wChoice k c h a P X1002 C1003 F1004)) (As := [.int p1]) (rest := []) ⟨hx, hb, hml, hown, hts⟩ hK hA hP hD hS (mX1_weigh l D k c h a (P := P) (X_0 := X_0) (C_0 := C_0) (F_0 := F_0) h1005) (cwV 1 hts gX1_fewestFor_X1_weigh rfl rfl rfl kX1_weigh ⟨Nat.le_of_ble_eq_true rfl, Nat.le_of_ble_eq_true rfl⟩) [0, 1, 2, 3, 4, 5, 6, 7, 8, 9, 10, 11, 12, 13, 14] rfl rfl rfl [false, false, false, false, false, false, false, false, false, false, false, false, false, false, false] trivial 15 rfl (by decide +kernel) rfl 0 rfl rfl rfl hl.1 rfl (Nat.le_of_ble_eq_true rfl) ⟨Nat.le_refl 0, Nat.le_refl 0⟩ dX1_fewestFor_10 (fun H locs hP hD hS => ?_)
      refine lv_iconst (v := (-1)) hx hb dX1_fewestFor_13 (by decide) ?_
      refine lv_istore (lv' := [(4, .int (-1)), (0, .ref (c 0)), (1, .int p1), (2, .long p2)]) hx hb dX1_fewestFor_14 hl (by decide) rfl (fun ls hl => ?_)
      refine lv_iconst (v := 0) hx hb dX1_fewestFor_16 (by decide) ?_
      refine lv_istore (lv' := [(5, .int 0), (4, .int (-1)), (0, .ref (c 0)), (1, .int p1), (2, .long p2)]) hx hb dX1_fewestFor_17 hl (by decide) rfl (fun ls hl => ?_)
      exact B19 600 p2 (-1) 0 X1002 C1003 F1004 he H locs hP hD hS ls (lv_sub hl [2, 4, 1, 0] rfl)
    · have he := ifn he c1001
      refine lv_iconst (v := 0) hx hb dX1_fewestFor_6 (by decide) ?_
      obtain ⟨rfl, rfl, rfl, rfl⟩ := some4 he
      exact cRi hx hb hr hlk hK rfl hP hD hS dX1_fewestFor_7
  exact key ss.heap [] rfl rfl hP hS
