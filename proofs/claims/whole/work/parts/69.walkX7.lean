theorem kX7_files : yX7_files.cls = RX7 ∧ yX7_files.cls ≠ "java/lang/invoke/MethodHandle" ∧ yX7_files.cls ≠ "java/lang/invoke/VarHandle" ∧ (parseMethodDescriptor yX7_files.desc).map (fun d => d.parameters.length) = some 1 := by decide +kernel
set_option maxRecDepth 100000 in
set_option maxHeartbeats 4000000 in
theorem mX7_files (l : Launch) (D : va_G) (k : Nat → ClassId) (d : Nat → Nat) (a : Nat → Nat) (a2 : Nat → Nat) (a3 : Nat → Nat) (h : Nat → Nat) (c : Nat → Nat) (g : Nat → Nat) (t0 : Nat → Nat) (t1 : Nat → Nat) (t2 : Nat → Nat) (t3 : Nat → Nat) (b : Nat) (v : Nat) (o : Nat) (b2 : Nat) {P_0 : Nat → Nat → Int32} {T : Nat → Nat → Int32} {K : Nat → Nat → Int32} {X : Nat → Int32} {Y : Nat → Int32} {C : Nat → Int32} {F : Nat → Int64} {z : Int32} {SO : Nat → Int32} {LE : Nat → Int32} {RO : Nat → Nat → Int64} {hi : Int32} {p1 : Int32} {r : Int32} {P' : Nat → Nat → Int32} (he : xX7_files P_0 p1 = some (r, P')) : CtI l D k yX7_files wsX7_files ({ frames := 2, cells := 0, slots := 0, locals := 45 } : Room) [.ref (d 0), .int p1] (wMain k d a a2 a3 h c g t0 t1 t2 t3 b v o b2 P_0 T K X Y C F z SO LE RO hi) r (wMain k d a a2 a3 h c g t0 t1 t2 t3 b v o b2 P' T K X Y C F z SO LE RO hi) := by
  intro sz9
  refine cSt (lv := [(0, .ref (d 0)), (1, .int p1)]) (own := RX7) (cc := cX7_files) (nL := 2) (ret := (some .int)) (by decide +kernel) rfl rfl (Nat.le_of_ble_eq_true rfl) rfl ?_
  intro pp ee ss mm bl me co hsz hC0 hP hD hS ls hl
  subst hsz
  obtain ⟨hx, hb, hr, hml, hown, hts, hK, hlk⟩ := hC0
  have hA : ∀ q, ss.heap.size ≤ q → va_A (wMain k d a a2 a3 h c g t0 t1 t2 t3 b v o b2 P_0 T K X Y C F z SO LE RO hi) ss.heap.size q := fun q h => Or.inr h
  have iX7 : ∀ w ∈ wsX70, w ∈ wsX7_files := fun _ h => List.mem_cons_of_mem _ (List.mem_append_left _ (List.mem_append_left _ (List.mem_append_right _ h)))
  have w1 := hts (.fieldLink RX7 27 "DeadListPool" "acts" "LDeadListPool$Acts;") (List.mem_of_getElem? (i := 1) rfl)
  have hS0 := hS
  have key : ∀ (H : Heap) (locs : List Loc), H = ss.heap → locs = [] → va_P D vwCl (wMain k d a a2 a3 h c g t0 t1 t2 t3 b v o b2 P_0 T K X Y C F z SO LE RO hi) H → va_S (va_A (wMain k d a a2 a3 h c g t0 t1 t2 t3 b v o b2 P_0 T K X Y C F z SO LE RO hi) ss.heap.size) ss.heap H locs → W pp l ee ({ frames := 2, cells := 0, slots := 0, locals := 45 } : Room) ss mm ([.ref (d 0), .int p1] : List Value).toArray bl me co H locs 0 0 (MQ bl (cQi D k (wMain k d a a2 a3 h c g t0 t1 t2 t3 b v o b2 P_0 T K X Y C F z SO LE RO hi) ss.heap.size r (wMain k d a a2 a3 h c g t0 t1 t2 t3 b v o b2 P' T K X Y C F z SO LE RO hi)) ([.ref (d 0), .int p1] : List Value).toArray ss 0 0 (va_A (wMain k d a a2 a3 h c g t0 t1 t2 t3 b v o b2 P_0 T K X Y C F z SO LE RO hi) ss.heap.size)) (F0 mm 0 ls []) := by
    intro H locs _ _ hP hS
    refine lv_aload_n hx hb dX7_files_0 rfl (lv_at hl 0 rfl) ?_
    refine va_get (D := D) (ci := 7) (v := .ref b) (C := RX7) (T := TX7) (N := 9) hx hb hts iX7 hown hK hP 0 rfl rfl 3 (by decide) w1 (fun _ h9 => h9) rfl dX7_files_1 ?_
    refine lv_iload_n hx hb dX7_files_4 rfl (lv_at hl 1 rfl) ?_
    obtain ⟨v1001, P1002, h1003, he⟩ := bn2_i he
    refine cVi (wf := (wMain k d a a2 a3 h c g t0 t1 t2 t3 b v o b2 P1002 T K X Y C F z SO LE RO hi)) (As := [.int p1]) (rest := []) ⟨hx, hb, hml, hown, hts⟩ hK hA hP hD hS (mX0_addFiles l D k b a (P_0 := P_0) h1003) (cwV 1 hts gX7_files_X0_addFiles rfl rfl rfl kX0_addFiles ⟨Nat.le_of_ble_eq_true rfl, Nat.le_of_ble_eq_true rfl⟩) [32, 2, 3, 4, 5, 6, 7, 8, 9, 10, 11] rfl rfl rfl [true, true, false, false, false, false, false, false, false, false, false, false, true, true, true, true, true, true, true, true, true, true, true, true, true, true, true, true, true, true, true, true, false, true, true, true, true, true, true, true, true, true, true, true, true, true, true, true, true, true, true] ⟨rfl, rfl, rfl, rfl, rfl, rfl, rfl, rfl, rfl, rfl, rfl, rfl, rfl, rfl, rfl, rfl, rfl, rfl, rfl, rfl, rfl, rfl, rfl, rfl, rfl, rfl, rfl, rfl, rfl, rfl, rfl, rfl, rfl, rfl, rfl, rfl, rfl, rfl, rfl, rfl, trivial⟩ 51 rfl (by decide +kernel) rfl 0 rfl rfl rfl hl.1 rfl (Nat.le_of_ble_eq_true rfl) ⟨Nat.le_refl 0, Nat.le_refl 0⟩ dX7_files_5 (fun H locs hP hD hS => ?_)
    obtain ⟨rfl, rfl⟩ := some2 he
    exact cRi hx hb hr hlk hK rfl hP hD hS dX7_files_8
  exact key ss.heap [] rfl rfl hP hS
theorem kX7_write : yX7_write.cls = RX7 ∧ yX7_write.cls ≠ "java/lang/invoke/MethodHandle" ∧ yX7_write.cls ≠ "java/lang/invoke/VarHandle" ∧ (parseMethodDescriptor yX7_write.desc).map (fun d => d.parameters.length) = some 3 := by decide +kernel
set_option maxRecDepth 100000 in
set_option maxHeartbeats 4000000 in
theorem mX7_write (l : Launch) (D : va_G) (k : Nat → ClassId) (d : Nat → Nat) (a : Nat → Nat) (a2 : Nat → Nat) (a3 : Nat → Nat) (h : Nat → Nat) (c : Nat → Nat) (g : Nat → Nat) (t0 : Nat → Nat) (t1 : Nat → Nat) (t2 : Nat → Nat) (t3 : Nat → Nat) (b : Nat) (v : Nat) (o : Nat) (b2 : Nat) {P_0 : Nat → Nat → Int32} {T : Nat → Nat → Int32} {K : Nat → Nat → Int32} {X : Nat → Int32} {Y : Nat → Int32} {C : Nat → Int32} {F : Nat → Int64} {z : Int32} {SO : Nat → Int32} {LE : Nat → Int32} {RO : Nat → Nat → Int64} {hi : Int32} {p1 : Int32} {p2 : Int32} {p3 : Int32} {r : Int32} {P' : Nat → Nat → Int32} (he : xX7_write P_0 p1 p2 p3 = some (r, P')) : CtI l D k yX7_write wsX7_write ({ frames := 4, cells := 0, slots := 0, locals := 97 } : Room) [.ref (d 0), .int p1, .int p2, .int p3] (wMain k d a a2 a3 h c g t0 t1 t2 t3 b v o b2 P_0 T K X Y C F z SO LE RO hi) r (wMain k d a a2 a3 h c g t0 t1 t2 t3 b v o b2 P' T K X Y C F z SO LE RO hi) := by
  intro sz9
  refine cSt (lv := [(0, .ref (d 0)), (1, .int p1), (2, .int p2), (3, .int p3)]) (own := RX7) (cc := cX7_write) (nL := 4) (ret := (some .int)) (by decide +kernel) rfl rfl (Nat.le_of_ble_eq_true rfl) rfl ?_
  intro pp ee ss mm bl me co hsz hC0 hP hD hS ls hl
  subst hsz
  obtain ⟨hx, hb, hr, hml, hown, hts, hK, hlk⟩ := hC0
  have hA : ∀ q, ss.heap.size ≤ q → va_A (wMain k d a a2 a3 h c g t0 t1 t2 t3 b v o b2 P_0 T K X Y C F z SO LE RO hi) ss.heap.size q := fun q h => Or.inr h
  have iX7 : ∀ w ∈ wsX70, w ∈ wsX7_write := fun _ h => List.mem_cons_of_mem _ (List.mem_append_left _ (List.mem_append_left _ (List.mem_append_right _ h)))
  have w1 := hts (.fieldLink RX7 27 "DeadListPool" "acts" "LDeadListPool$Acts;") (List.mem_of_getElem? (i := 1) rfl)
  have hS0 := hS
  have key : ∀ (H : Heap) (locs : List Loc), H = ss.heap → locs = [] → va_P D vwCl (wMain k d a a2 a3 h c g t0 t1 t2 t3 b v o b2 P_0 T K X Y C F z SO LE RO hi) H → va_S (va_A (wMain k d a a2 a3 h c g t0 t1 t2 t3 b v o b2 P_0 T K X Y C F z SO LE RO hi) ss.heap.size) ss.heap H locs → W pp l ee ({ frames := 4, cells := 0, slots := 0, locals := 97 } : Room) ss mm ([.ref (d 0), .int p1, .int p2, .int p3] : List Value).toArray bl me co H locs 0 0 (MQ bl (cQi D k (wMain k d a a2 a3 h c g t0 t1 t2 t3 b v o b2 P_0 T K X Y C F z SO LE RO hi) ss.heap.size r (wMain k d a a2 a3 h c g t0 t1 t2 t3 b v o b2 P' T K X Y C F z SO LE RO hi)) ([.ref (d 0), .int p1, .int p2, .int p3] : List Value).toArray ss 0 0 (va_A (wMain k d a a2 a3 h c g t0 t1 t2 t3 b v o b2 P_0 T K X Y C F z SO LE RO hi) ss.heap.size)) (F0 mm 0 ls []) := by
    intro H locs _ _ hP hS
    refine lv_aload_n hx hb dX7_write_0 rfl (lv_at hl 0 rfl) ?_
    refine va_get (D := D) (ci := 7) (v := .ref b) (C := RX7) (T := TX7) (N := 9) hx hb hts iX7 hown hK hP 0 rfl rfl 3 (by decide) w1 (fun _ h9 => h9) rfl dX7_write_1 ?_
    refine lv_iload_n hx hb dX7_write_4 rfl (lv_at hl 1 rfl) ?_
    refine lv_iload_n hx hb dX7_write_5 rfl (lv_at hl 2 rfl) ?_
    refine lv_iload_n hx hb dX7_write_6 rfl (lv_at hl 3 rfl) ?_
    obtain ⟨v1001, P1002, h1003, he⟩ := bn2_i he
    refine cVi (wf := (wMain k d a a2 a3 h c g t0 t1 t2 t3 b v o b2 P1002 T K X Y C F z SO LE RO hi)) (As := [.int p1, .int p2, .int p3]) (rest := []) ⟨hx, hb, hml, hown, hts⟩ hK hA hP hD hS (mX0_writeSlot l D k b a (P_0 := P_0) h1003) (cwV 3 hts gX7_write_X0_writeSlot rfl rfl rfl kX0_writeSlot ⟨Nat.le_of_ble_eq_true rfl, Nat.le_of_ble_eq_true rfl⟩) [32, 2, 3, 4, 5, 6, 7, 8, 9, 10, 11] rfl rfl rfl [true, true, false, false, false, false, false, false, false, false, false, false, true, true, true, true, true, true, true, true, true, true, true, true, true, true, true, true, true, true, true, true, false, true, true, true, true, true, true, true, true, true, true, true, true, true, true, true, true, true, true] ⟨rfl, rfl, rfl, rfl, rfl, rfl, rfl, rfl, rfl, rfl, rfl, rfl, rfl, rfl, rfl, rfl, rfl, rfl, rfl, rfl, rfl, rfl, rfl, rfl, rfl, rfl, rfl, rfl, rfl, rfl, rfl, rfl, rfl, rfl, rfl, rfl, rfl, rfl, rfl, rfl, trivial⟩ 51 rfl (by decide +kernel) rfl 0 rfl rfl rfl hl.1 rfl (Nat.le_of_ble_eq_true rfl) ⟨Nat.le_refl 0, Nat.le_refl 0⟩ dX7_write_7 (fun H locs hP hD hS => ?_)
    obtain ⟨rfl, rfl⟩ := some2 he
    exact cRi hx hb hr hlk hK rfl hP hD hS dX7_write_10
  exact key ss.heap [] rfl rfl hP hS
theorem kX7_erase : yX7_erase.cls = RX7 ∧ yX7_erase.cls ≠ "java/lang/invoke/MethodHandle" ∧ yX7_erase.cls ≠ "java/lang/invoke/VarHandle" ∧ (parseMethodDescriptor yX7_erase.desc).map (fun d => d.parameters.length) = some 2 := by decide +kernel
set_option maxRecDepth 100000 in
set_option maxHeartbeats 4000000 in
theorem mX7_erase (l : Launch) (D : va_G) (k : Nat → ClassId) (d : Nat → Nat) (a : Nat → Nat) (a2 : Nat → Nat) (a3 : Nat → Nat) (h : Nat → Nat) (c : Nat → Nat) (g : Nat → Nat) (t0 : Nat → Nat) (t1 : Nat → Nat) (t2 : Nat → Nat) (t3 : Nat → Nat) (b : Nat) (v : Nat) (o : Nat) (b2 : Nat) {P_0 : Nat → Nat → Int32} {T : Nat → Nat → Int32} {K : Nat → Nat → Int32} {X : Nat → Int32} {Y : Nat → Int32} {C : Nat → Int32} {F : Nat → Int64} {z : Int32} {SO : Nat → Int32} {LE : Nat → Int32} {RO : Nat → Nat → Int64} {hi : Int32} {p1 : Int32} {p2 : Int32} {r : Int32} {P' : Nat → Nat → Int32} (he : xX7_erase P_0 p1 p2 = some (r, P')) : CtI l D k yX7_erase wsX7_erase ({ frames := 3, cells := 0, slots := 0, locals := 70 } : Room) [.ref (d 0), .int p1, .int p2] (wMain k d a a2 a3 h c g t0 t1 t2 t3 b v o b2 P_0 T K X Y C F z SO LE RO hi) r (wMain k d a a2 a3 h c g t0 t1 t2 t3 b v o b2 P' T K X Y C F z SO LE RO hi) := by
  intro sz9
  refine cSt (lv := [(0, .ref (d 0)), (1, .int p1), (2, .int p2)]) (own := RX7) (cc := cX7_erase) (nL := 3) (ret := (some .int)) (by decide +kernel) rfl rfl (Nat.le_of_ble_eq_true rfl) rfl ?_
  intro pp ee ss mm bl me co hsz hC0 hP hD hS ls hl
  subst hsz
  obtain ⟨hx, hb, hr, hml, hown, hts, hK, hlk⟩ := hC0
  have hA : ∀ q, ss.heap.size ≤ q → va_A (wMain k d a a2 a3 h c g t0 t1 t2 t3 b v o b2 P_0 T K X Y C F z SO LE RO hi) ss.heap.size q := fun q h => Or.inr h
  have iX7 : ∀ w ∈ wsX70, w ∈ wsX7_erase := fun _ h => List.mem_cons_of_mem _ (List.mem_append_left _ (List.mem_append_left _ (List.mem_append_right _ h)))
  have w1 := hts (.fieldLink RX7 27 "DeadListPool" "acts" "LDeadListPool$Acts;") (List.mem_of_getElem? (i := 1) rfl)
  have hS0 := hS
  have key : ∀ (H : Heap) (locs : List Loc), H = ss.heap → locs = [] → va_P D vwCl (wMain k d a a2 a3 h c g t0 t1 t2 t3 b v o b2 P_0 T K X Y C F z SO LE RO hi) H → va_S (va_A (wMain k d a a2 a3 h c g t0 t1 t2 t3 b v o b2 P_0 T K X Y C F z SO LE RO hi) ss.heap.size) ss.heap H locs → W pp l ee ({ frames := 3, cells := 0, slots := 0, locals := 70 } : Room) ss mm ([.ref (d 0), .int p1, .int p2] : List Value).toArray bl me co H locs 0 0 (MQ bl (cQi D k (wMain k d a a2 a3 h c g t0 t1 t2 t3 b v o b2 P_0 T K X Y C F z SO LE RO hi) ss.heap.size r (wMain k d a a2 a3 h c g t0 t1 t2 t3 b v o b2 P' T K X Y C F z SO LE RO hi)) ([.ref (d 0), .int p1, .int p2] : List Value).toArray ss 0 0 (va_A (wMain k d a a2 a3 h c g t0 t1 t2 t3 b v o b2 P_0 T K X Y C F z SO LE RO hi) ss.heap.size)) (F0 mm 0 ls []) := by
    intro H locs _ _ hP hS
    refine lv_aload_n hx hb dX7_erase_0 rfl (lv_at hl 0 rfl) ?_
    refine va_get (D := D) (ci := 7) (v := .ref b) (C := RX7) (T := TX7) (N := 9) hx hb hts iX7 hown hK hP 0 rfl rfl 3 (by decide) w1 (fun _ h9 => h9) rfl dX7_erase_1 ?_
    refine lv_iload_n hx hb dX7_erase_4 rfl (lv_at hl 1 rfl) ?_
    refine lv_iload_n hx hb dX7_erase_5 rfl (lv_at hl 2 rfl) ?_
    obtain ⟨v1001, P1002, h1003, he⟩ := bn2_i he
    refine cVi (wf := (wMain k d a a2 a3 h c g t0 t1 t2 t3 b v o b2 P1002 T K X Y C F z SO LE RO hi)) (As := [.int p1, .int p2]) (rest := []) ⟨hx, hb, hml, hown, hts⟩ hK hA hP hD hS (mX0_eraseSlot l D k b a (P_0 := P_0) h1003) (cwV 2 hts gX7_erase_X0_eraseSlot rfl rfl rfl kX0_eraseSlot ⟨Nat.le_of_ble_eq_true rfl, Nat.le_of_ble_eq_true rfl⟩) [32, 2, 3, 4, 5, 6, 7, 8, 9, 10, 11] rfl rfl rfl [true, true, false, false, false, false, false, false, false, false, false, false, true, true, true, true, true, true, true, true, true, true, true, true, true, true, true, true, true, true, true, true, false, true, true, true, true, true, true, true, true, true, true, true, true, true, true, true, true, true, true] ⟨rfl, rfl, rfl, rfl, rfl, rfl, rfl, rfl, rfl, rfl, rfl, rfl, rfl, rfl, rfl, rfl, rfl, rfl, rfl, rfl, rfl, rfl, rfl, rfl, rfl, rfl, rfl, rfl, rfl, rfl, rfl, rfl, rfl, rfl, rfl, rfl, rfl, rfl, rfl, rfl, trivial⟩ 51 rfl (by decide +kernel) rfl 0 rfl rfl rfl hl.1 rfl (Nat.le_of_ble_eq_true rfl) ⟨Nat.le_refl 0, Nat.le_refl 0⟩ dX7_erase_6 (fun H locs hP hD hS => ?_)
    obtain ⟨rfl, rfl⟩ := some2 he
    exact cRi hx hb hr hlk hK rfl hP hD hS dX7_erase_9
  exact key ss.heap [] rfl rfl hP hS
theorem kX7_snap : yX7_snap.cls = RX7 ∧ yX7_snap.cls ≠ "java/lang/invoke/MethodHandle" ∧ yX7_snap.cls ≠ "java/lang/invoke/VarHandle" ∧ (parseMethodDescriptor yX7_snap.desc).map (fun d => d.parameters.length) = some 2 := by decide +kernel
set_option maxRecDepth 100000 in
set_option maxHeartbeats 4000000 in
theorem mX7_snap (l : Launch) (D : va_G) (k : Nat → ClassId) (d : Nat → Nat) (a : Nat → Nat) (a2 : Nat → Nat) (a3 : Nat → Nat) (h : Nat → Nat) (c : Nat → Nat) (g : Nat → Nat) (t0 : Nat → Nat) (t1 : Nat → Nat) (t2 : Nat → Nat) (t3 : Nat → Nat) (b : Nat) (v : Nat) (o : Nat) (b2 : Nat) {P_0 : Nat → Nat → Int32} {T : Nat → Nat → Int32} {K : Nat → Nat → Int32} {X : Nat → Int32} {Y : Nat → Int32} {C : Nat → Int32} {F : Nat → Int64} {z : Int32} {SO : Nat → Int32} {LE : Nat → Int32} {RO : Nat → Nat → Int64} {hi : Int32} {p1 : Int32} {p2 : Int32} {r : Int32} {P' : Nat → Nat → Int32} (he : xX7_snap P_0 p1 p2 = some (r, P')) : CtI l D k yX7_snap wsX7_snap ({ frames := 3, cells := 0, slots := 0, locals := 70 } : Room) [.ref (d 0), .int p1, .int p2] (wMain k d a a2 a3 h c g t0 t1 t2 t3 b v o b2 P_0 T K X Y C F z SO LE RO hi) r (wMain k d a a2 a3 h c g t0 t1 t2 t3 b v o b2 P' T K X Y C F z SO LE RO hi) := by
  intro sz9
  refine cSt (lv := [(0, .ref (d 0)), (1, .int p1), (2, .int p2)]) (own := RX7) (cc := cX7_snap) (nL := 3) (ret := (some .int)) (by decide +kernel) rfl rfl (Nat.le_of_ble_eq_true rfl) rfl ?_
  intro pp ee ss mm bl me co hsz hC0 hP hD hS ls hl
  subst hsz
  obtain ⟨hx, hb, hr, hml, hown, hts, hK, hlk⟩ := hC0
  have hA : ∀ q, ss.heap.size ≤ q → va_A (wMain k d a a2 a3 h c g t0 t1 t2 t3 b v o b2 P_0 T K X Y C F z SO LE RO hi) ss.heap.size q := fun q h => Or.inr h
  have iX7 : ∀ w ∈ wsX70, w ∈ wsX7_snap := fun _ h => List.mem_cons_of_mem _ (List.mem_append_left _ (List.mem_append_left _ (List.mem_append_right _ h)))
  have w1 := hts (.fieldLink RX7 27 "DeadListPool" "acts" "LDeadListPool$Acts;") (List.mem_of_getElem? (i := 1) rfl)
  have hS0 := hS
  have key : ∀ (H : Heap) (locs : List Loc), H = ss.heap → locs = [] → va_P D vwCl (wMain k d a a2 a3 h c g t0 t1 t2 t3 b v o b2 P_0 T K X Y C F z SO LE RO hi) H → va_S (va_A (wMain k d a a2 a3 h c g t0 t1 t2 t3 b v o b2 P_0 T K X Y C F z SO LE RO hi) ss.heap.size) ss.heap H locs → W pp l ee ({ frames := 3, cells := 0, slots := 0, locals := 70 } : Room) ss mm ([.ref (d 0), .int p1, .int p2] : List Value).toArray bl me co H locs 0 0 (MQ bl (cQi D k (wMain k d a a2 a3 h c g t0 t1 t2 t3 b v o b2 P_0 T K X Y C F z SO LE RO hi) ss.heap.size r (wMain k d a a2 a3 h c g t0 t1 t2 t3 b v o b2 P' T K X Y C F z SO LE RO hi)) ([.ref (d 0), .int p1, .int p2] : List Value).toArray ss 0 0 (va_A (wMain k d a a2 a3 h c g t0 t1 t2 t3 b v o b2 P_0 T K X Y C F z SO LE RO hi) ss.heap.size)) (F0 mm 0 ls []) := by
    intro H locs _ _ hP hS
    refine lv_aload_n hx hb dX7_snap_0 rfl (lv_at hl 0 rfl) ?_
    refine va_get (D := D) (ci := 7) (v := .ref b) (C := RX7) (T := TX7) (N := 9) hx hb hts iX7 hown hK hP 0 rfl rfl 3 (by decide) w1 (fun _ h9 => h9) rfl dX7_snap_1 ?_
    refine lv_iload_n hx hb dX7_snap_4 rfl (lv_at hl 1 rfl) ?_
    refine lv_iload_n hx hb dX7_snap_5 rfl (lv_at hl 2 rfl) ?_
    obtain ⟨v1001, P1002, h1003, he⟩ := bn2_i he
    refine cVi (wf := (wMain k d a a2 a3 h c g t0 t1 t2 t3 b v o b2 P1002 T K X Y C F z SO LE RO hi)) (As := [.int p1, .int p2]) (rest := []) ⟨hx, hb, hml, hown, hts⟩ hK hA hP hD hS (mX0_addSnapshot l D k b a (P_0 := P_0) h1003) (cwV 2 hts gX7_snap_X0_addSnapshot rfl rfl rfl kX0_addSnapshot ⟨Nat.le_of_ble_eq_true rfl, Nat.le_of_ble_eq_true rfl⟩) [32, 2, 3, 4, 5, 6, 7, 8, 9, 10, 11] rfl rfl rfl [true, true, false, false, false, false, false, false, false, false, false, false, true, true, true, true, true, true, true, true, true, true, true, true, true, true, true, true, true, true, true, true, false, true, true, true, true, true, true, true, true, true, true, true, true, true, true, true, true, true, true] ⟨rfl, rfl, rfl, rfl, rfl, rfl, rfl, rfl, rfl, rfl, rfl, rfl, rfl, rfl, rfl, rfl, rfl, rfl, rfl, rfl, rfl, rfl, rfl, rfl, rfl, rfl, rfl, rfl, rfl, rfl, rfl, rfl, rfl, rfl, rfl, rfl, rfl, rfl, rfl, rfl, trivial⟩ 51 rfl (by decide +kernel) rfl 0 rfl rfl rfl hl.1 rfl (Nat.le_of_ble_eq_true rfl) ⟨Nat.le_refl 0, Nat.le_refl 0⟩ dX7_snap_6 (fun H locs hP hD hS => ?_)
    obtain ⟨rfl, rfl⟩ := some2 he
    exact cRi hx hb hr hlk hK rfl hP hD hS dX7_snap_9
  exact key ss.heap [] rfl rfl hP hS
theorem kX7_tag : yX7_tag.cls = RX7 ∧ yX7_tag.cls ≠ "java/lang/invoke/MethodHandle" ∧ yX7_tag.cls ≠ "java/lang/invoke/VarHandle" ∧ (parseMethodDescriptor yX7_tag.desc).map (fun d => d.parameters.length) = some 2 := by decide +kernel
set_option maxRecDepth 100000 in
set_option maxHeartbeats 4000000 in
theorem mX7_tag (l : Launch) (D : va_G) (k : Nat → ClassId) (d : Nat → Nat) (a : Nat → Nat) (a2 : Nat → Nat) (a3 : Nat → Nat) (h : Nat → Nat) (c : Nat → Nat) (g : Nat → Nat) (t0 : Nat → Nat) (t1 : Nat → Nat) (t2 : Nat → Nat) (t3 : Nat → Nat) (b : Nat) (v : Nat) (o : Nat) (b2 : Nat) {P_0 : Nat → Nat → Int32} {T : Nat → Nat → Int32} {K : Nat → Nat → Int32} {X : Nat → Int32} {Y : Nat → Int32} {C : Nat → Int32} {F : Nat → Int64} {z : Int32} {SO : Nat → Int32} {LE : Nat → Int32} {RO : Nat → Nat → Int64} {hi : Int32} {p1 : Int32} {p2 : Int32} {r : Int32} {P' : Nat → Nat → Int32} (he : xX7_tag P_0 p1 p2 = some (r, P')) : CtI l D k yX7_tag wsX7_tag ({ frames := 3, cells := 0, slots := 0, locals := 70 } : Room) [.ref (d 0), .int p1, .int p2] (wMain k d a a2 a3 h c g t0 t1 t2 t3 b v o b2 P_0 T K X Y C F z SO LE RO hi) r (wMain k d a a2 a3 h c g t0 t1 t2 t3 b v o b2 P' T K X Y C F z SO LE RO hi) := by
  intro sz9
  refine cSt (lv := [(0, .ref (d 0)), (1, .int p1), (2, .int p2)]) (own := RX7) (cc := cX7_tag) (nL := 3) (ret := (some .int)) (by decide +kernel) rfl rfl (Nat.le_of_ble_eq_true rfl) rfl ?_
  intro pp ee ss mm bl me co hsz hC0 hP hD hS ls hl
  subst hsz
  obtain ⟨hx, hb, hr, hml, hown, hts, hK, hlk⟩ := hC0
  have hA : ∀ q, ss.heap.size ≤ q → va_A (wMain k d a a2 a3 h c g t0 t1 t2 t3 b v o b2 P_0 T K X Y C F z SO LE RO hi) ss.heap.size q := fun q h => Or.inr h
  have iX7 : ∀ w ∈ wsX70, w ∈ wsX7_tag := fun _ h => List.mem_cons_of_mem _ (List.mem_append_left _ (List.mem_append_left _ (List.mem_append_right _ h)))
  have w1 := hts (.fieldLink RX7 27 "DeadListPool" "acts" "LDeadListPool$Acts;") (List.mem_of_getElem? (i := 1) rfl)
  have hS0 := hS
  have key : ∀ (H : Heap) (locs : List Loc), H = ss.heap → locs = [] → va_P D vwCl (wMain k d a a2 a3 h c g t0 t1 t2 t3 b v o b2 P_0 T K X Y C F z SO LE RO hi) H → va_S (va_A (wMain k d a a2 a3 h c g t0 t1 t2 t3 b v o b2 P_0 T K X Y C F z SO LE RO hi) ss.heap.size) ss.heap H locs → W pp l ee ({ frames := 3, cells := 0, slots := 0, locals := 70 } : Room) ss mm ([.ref (d 0), .int p1, .int p2] : List Value).toArray bl me co H locs 0 0 (MQ bl (cQi D k (wMain k d a a2 a3 h c g t0 t1 t2 t3 b v o b2 P_0 T K X Y C F z SO LE RO hi) ss.heap.size r (wMain k d a a2 a3 h c g t0 t1 t2 t3 b v o b2 P' T K X Y C F z SO LE RO hi)) ([.ref (d 0), .int p1, .int p2] : List Value).toArray ss 0 0 (va_A (wMain k d a a2 a3 h c g t0 t1 t2 t3 b v o b2 P_0 T K X Y C F z SO LE RO hi) ss.heap.size)) (F0 mm 0 ls []) := by
    intro H locs _ _ hP hS
    refine lv_aload_n hx hb dX7_tag_0 rfl (lv_at hl 0 rfl) ?_
    refine va_get (D := D) (ci := 7) (v := .ref b) (C := RX7) (T := TX7) (N := 9) hx hb hts iX7 hown hK hP 0 rfl rfl 3 (by decide) w1 (fun _ h9 => h9) rfl dX7_tag_1 ?_
    refine lv_iload_n hx hb dX7_tag_4 rfl (lv_at hl 1 rfl) ?_
    refine lv_iload_n hx hb dX7_tag_5 rfl (lv_at hl 2 rfl) ?_
    obtain ⟨v1001, P1002, h1003, he⟩ := bn2_i he
    refine cVi (wf := (wMain k d a a2 a3 h c g t0 t1 t2 t3 b v o b2 P1002 T K X Y C F z SO LE RO hi)) (As := [.int p1, .int p2]) (rest := []) ⟨hx, hb, hml, hown, hts⟩ hK hA hP hD hS (mX0_changeTags l D k b a (P_0 := P_0) h1003) (cwV 2 hts gX7_tag_X0_changeTags rfl rfl rfl kX0_changeTags ⟨Nat.le_of_ble_eq_true rfl, Nat.le_of_ble_eq_true rfl⟩) [32, 2, 3, 4, 5, 6, 7, 8, 9, 10, 11] rfl rfl rfl [true, true, false, false, false, false, false, false, false, false, false, false, true, true, true, true, true, true, true, true, true, true, true, true, true, true, true, true, true, true, true, true, false, true, true, true, true, true, true, true, true, true, true, true, true, true, true, true, true, true, true] ⟨rfl, rfl, rfl, rfl, rfl, rfl, rfl, rfl, rfl, rfl, rfl, rfl, rfl, rfl, rfl, rfl, rfl, rfl, rfl, rfl, rfl, rfl, rfl, rfl, rfl, rfl, rfl, rfl, rfl, rfl, rfl, rfl, rfl, rfl, rfl, rfl, rfl, rfl, rfl, rfl, trivial⟩ 51 rfl (by decide +kernel) rfl 0 rfl rfl rfl hl.1 rfl (Nat.le_of_ble_eq_true rfl) ⟨Nat.le_refl 0, Nat.le_refl 0⟩ dX7_tag_6 (fun H locs hP hD hS => ?_)
    obtain ⟨rfl, rfl⟩ := some2 he
    exact cRi hx hb hr hlk hK rfl hP hD hS dX7_tag_9
  exact key ss.heap [] rfl rfl hP hS
theorem kX7_mark : yX7_mark.cls = RX7 ∧ yX7_mark.cls ≠ "java/lang/invoke/MethodHandle" ∧ yX7_mark.cls ≠ "java/lang/invoke/VarHandle" ∧ (parseMethodDescriptor yX7_mark.desc).map (fun d => d.parameters.length) = some 1 := by decide +kernel
set_option maxRecDepth 100000 in
set_option maxHeartbeats 4000000 in
theorem mX7_mark (l : Launch) (D : va_G) (k : Nat → ClassId) (d : Nat → Nat) (a : Nat → Nat) (a2 : Nat → Nat) (a3 : Nat → Nat) (h : Nat → Nat) (c : Nat → Nat) (g : Nat → Nat) (t0 : Nat → Nat) (t1 : Nat → Nat) (t2 : Nat → Nat) (t3 : Nat → Nat) (b : Nat) (v : Nat) (o : Nat) (b2 : Nat) {P_0 : Nat → Nat → Int32} {T : Nat → Nat → Int32} {K : Nat → Nat → Int32} {X : Nat → Int32} {Y : Nat → Int32} {C : Nat → Int32} {F : Nat → Int64} {z : Int32} {SO : Nat → Int32} {LE : Nat → Int32} {RO : Nat → Nat → Int64} {hi : Int32} {p1 : Int32} {r : Int32} {P' : Nat → Nat → Int32} (he : xX7_mark P_0 p1 = some (r, P')) : CtI l D k yX7_mark wsX7_mark ({ frames := 3, cells := 0, slots := 0, locals := 68 } : Room) [.ref (d 0), .int p1] (wMain k d a a2 a3 h c g t0 t1 t2 t3 b v o b2 P_0 T K X Y C F z SO LE RO hi) r (wMain k d a a2 a3 h c g t0 t1 t2 t3 b v o b2 P' T K X Y C F z SO LE RO hi) := by
  intro sz9
  refine cSt (lv := [(0, .ref (d 0)), (1, .int p1)]) (own := RX7) (cc := cX7_mark) (nL := 2) (ret := (some .int)) (by decide +kernel) rfl rfl (Nat.le_of_ble_eq_true rfl) rfl ?_
  intro pp ee ss mm bl me co hsz hC0 hP hD hS ls hl
  subst hsz
  obtain ⟨hx, hb, hr, hml, hown, hts, hK, hlk⟩ := hC0
  have hA : ∀ q, ss.heap.size ≤ q → va_A (wMain k d a a2 a3 h c g t0 t1 t2 t3 b v o b2 P_0 T K X Y C F z SO LE RO hi) ss.heap.size q := fun q h => Or.inr h
  have iX7 : ∀ w ∈ wsX70, w ∈ wsX7_mark := fun _ h => List.mem_cons_of_mem _ (List.mem_append_left _ (List.mem_append_left _ (List.mem_append_right _ h)))
  have w1 := hts (.fieldLink RX7 27 "DeadListPool" "acts" "LDeadListPool$Acts;") (List.mem_of_getElem? (i := 1) rfl)
  have hS0 := hS
  have key : ∀ (H : Heap) (locs : List Loc), H = ss.heap → locs = [] → va_P D vwCl (wMain k d a a2 a3 h c g t0 t1 t2 t3 b v o b2 P_0 T K X Y C F z SO LE RO hi) H → va_S (va_A (wMain k d a a2 a3 h c g t0 t1 t2 t3 b v o b2 P_0 T K X Y C F z SO LE RO hi) ss.heap.size) ss.heap H locs → W pp l ee ({ frames := 3, cells := 0, slots := 0, locals := 68 } : Room) ss mm ([.ref (d 0), .int p1] : List Value).toArray bl me co H locs 0 0 (MQ bl (cQi D k (wMain k d a a2 a3 h c g t0 t1 t2 t3 b v o b2 P_0 T K X Y C F z SO LE RO hi) ss.heap.size r (wMain k d a a2 a3 h c g t0 t1 t2 t3 b v o b2 P' T K X Y C F z SO LE RO hi)) ([.ref (d 0), .int p1] : List Value).toArray ss 0 0 (va_A (wMain k d a a2 a3 h c g t0 t1 t2 t3 b v o b2 P_0 T K X Y C F z SO LE RO hi) ss.heap.size)) (F0 mm 0 ls []) := by
    intro H locs _ _ hP hS
    refine lv_aload_n hx hb dX7_mark_0 rfl (lv_at hl 0 rfl) ?_
    refine va_get (D := D) (ci := 7) (v := .ref b) (C := RX7) (T := TX7) (N := 9) hx hb hts iX7 hown hK hP 0 rfl rfl 3 (by decide) w1 (fun _ h9 => h9) rfl dX7_mark_1 ?_
    refine lv_iload_n hx hb dX7_mark_4 rfl (lv_at hl 1 rfl) ?_
    obtain ⟨v1001, P1002, h1003, he⟩ := bn2_i he
    refine cVi (wf := (wMain k d a a2 a3 h c g t0 t1 t2 t3 b v o b2 P1002 T K X Y C F z SO LE RO hi)) (As := [.int p1]) (rest := []) ⟨hx, hb, hml, hown, hts⟩ hK hA hP hD hS (mX0_addBookmark l D k b a (P_0 := P_0) h1003) (cwV 1 hts gX7_mark_X0_addBookmark rfl rfl rfl kX0_addBookmark ⟨Nat.le_of_ble_eq_true rfl, Nat.le_of_ble_eq_true rfl⟩) [32, 2, 3, 4, 5, 6, 7, 8, 9, 10, 11] rfl rfl rfl [true, true, false, false, false, false, false, false, false, false, false, false, true, true, true, true, true, true, true, true, true, true, true, true, true, true, true, true, true, true, true, true, false, true, true, true, true, true, true, true, true, true, true, true, true, true, true, true, true, true, true] ⟨rfl, rfl, rfl, rfl, rfl, rfl, rfl, rfl, rfl, rfl, rfl, rfl, rfl, rfl, rfl, rfl, rfl, rfl, rfl, rfl, rfl, rfl, rfl, rfl, rfl, rfl, rfl, rfl, rfl, rfl, rfl, rfl, rfl, rfl, rfl, rfl, rfl, rfl, rfl, rfl, trivial⟩ 51 rfl (by decide +kernel) rfl 0 rfl rfl rfl hl.1 rfl (Nat.le_of_ble_eq_true rfl) ⟨Nat.le_refl 0, Nat.le_refl 0⟩ dX7_mark_5 (fun H locs hP hD hS => ?_)
    obtain ⟨rfl, rfl⟩ := some2 he
    exact cRi hx hb hr hlk hK rfl hP hD hS dX7_mark_8
  exact key ss.heap [] rfl rfl hP hS
theorem kX7_remove : yX7_remove.cls = RX7 ∧ yX7_remove.cls ≠ "java/lang/invoke/MethodHandle" ∧ yX7_remove.cls ≠ "java/lang/invoke/VarHandle" ∧ (parseMethodDescriptor yX7_remove.desc).map (fun d => d.parameters.length) = some 1 := by decide +kernel
set_option maxRecDepth 100000 in
set_option maxHeartbeats 4000000 in
theorem mX7_remove (l : Launch) (D : va_G) (k : Nat → ClassId) (d : Nat → Nat) (a : Nat → Nat) (a2 : Nat → Nat) (a3 : Nat → Nat) (h : Nat → Nat) (c : Nat → Nat) (g : Nat → Nat) (t0 : Nat → Nat) (t1 : Nat → Nat) (t2 : Nat → Nat) (t3 : Nat → Nat) (b : Nat) (v : Nat) (o : Nat) (b2 : Nat) {P_0 : Nat → Nat → Int32} {T : Nat → Nat → Int32} {K : Nat → Nat → Int32} {X : Nat → Int32} {Y : Nat → Int32} {C : Nat → Int32} {F : Nat → Int64} {z : Int32} {SO : Nat → Int32} {LE : Nat → Int32} {RO : Nat → Nat → Int64} {hi : Int32} {p1 : Int32} {r : Int32} {P' : Nat → Nat → Int32} (he : xX7_remove P_0 p1 = some (r, P')) : CtI l D k yX7_remove wsX7_remove ({ frames := 4, cells := 0, slots := 0, locals := 88 } : Room) [.ref (d 0), .int p1] (wMain k d a a2 a3 h c g t0 t1 t2 t3 b v o b2 P_0 T K X Y C F z SO LE RO hi) r (wMain k d a a2 a3 h c g t0 t1 t2 t3 b v o b2 P' T K X Y C F z SO LE RO hi) := by
  intro sz9
  refine cSt (lv := [(0, .ref (d 0)), (1, .int p1)]) (own := RX7) (cc := cX7_remove) (nL := 2) (ret := (some .int)) (by decide +kernel) rfl rfl (Nat.le_of_ble_eq_true rfl) rfl ?_
  intro pp ee ss mm bl me co hsz hC0 hP hD hS ls hl
  subst hsz
  obtain ⟨hx, hb, hr, hml, hown, hts, hK, hlk⟩ := hC0
  have hA : ∀ q, ss.heap.size ≤ q → va_A (wMain k d a a2 a3 h c g t0 t1 t2 t3 b v o b2 P_0 T K X Y C F z SO LE RO hi) ss.heap.size q := fun q h => Or.inr h
  have iX7 : ∀ w ∈ wsX70, w ∈ wsX7_remove := fun _ h => List.mem_cons_of_mem _ (List.mem_append_left _ (List.mem_append_left _ (List.mem_append_right _ h)))
  have w1 := hts (.fieldLink RX7 27 "DeadListPool" "acts" "LDeadListPool$Acts;") (List.mem_of_getElem? (i := 1) rfl)
  have hS0 := hS
  have key : ∀ (H : Heap) (locs : List Loc), H = ss.heap → locs = [] → va_P D vwCl (wMain k d a a2 a3 h c g t0 t1 t2 t3 b v o b2 P_0 T K X Y C F z SO LE RO hi) H → va_S (va_A (wMain k d a a2 a3 h c g t0 t1 t2 t3 b v o b2 P_0 T K X Y C F z SO LE RO hi) ss.heap.size) ss.heap H locs → W pp l ee ({ frames := 4, cells := 0, slots := 0, locals := 88 } : Room) ss mm ([.ref (d 0), .int p1] : List Value).toArray bl me co H locs 0 0 (MQ bl (cQi D k (wMain k d a a2 a3 h c g t0 t1 t2 t3 b v o b2 P_0 T K X Y C F z SO LE RO hi) ss.heap.size r (wMain k d a a2 a3 h c g t0 t1 t2 t3 b v o b2 P' T K X Y C F z SO LE RO hi)) ([.ref (d 0), .int p1] : List Value).toArray ss 0 0 (va_A (wMain k d a a2 a3 h c g t0 t1 t2 t3 b v o b2 P_0 T K X Y C F z SO LE RO hi) ss.heap.size)) (F0 mm 0 ls []) := by
    intro H locs _ _ hP hS
    refine lv_aload_n hx hb dX7_remove_0 rfl (lv_at hl 0 rfl) ?_
    refine va_get (D := D) (ci := 7) (v := .ref b) (C := RX7) (T := TX7) (N := 9) hx hb hts iX7 hown hK hP 0 rfl rfl 3 (by decide) w1 (fun _ h9 => h9) rfl dX7_remove_1 ?_
    refine lv_iload_n hx hb dX7_remove_4 rfl (lv_at hl 1 rfl) ?_
    obtain ⟨v1001, P1002, h1003, he⟩ := bn2_i he
    refine cVi (wf := (wMain k d a a2 a3 h c g t0 t1 t2 t3 b v o b2 P1002 T K X Y C F z SO LE RO hi)) (As := [.int p1]) (rest := []) ⟨hx, hb, hml, hown, hts⟩ hK hA hP hD hS (mX0_removeThing l D k b a (P_0 := P_0) h1003) (cwV 1 hts gX7_remove_X0_removeThing rfl rfl rfl kX0_removeThing ⟨Nat.le_of_ble_eq_true rfl, Nat.le_of_ble_eq_true rfl⟩) [32, 2, 3, 4, 5, 6, 7, 8, 9, 10, 11] rfl rfl rfl [true, true, false, false, false, false, false, false, false, false, false, false, true, true, true, true, true, true, true, true, true, true, true, true, true, true, true, true, true, true, true, true, false, true, true, true, true, true, true, true, true, true, true, true, true, true, true, true, true, true, true] ⟨rfl, rfl, rfl, rfl, rfl, rfl, rfl, rfl, rfl, rfl, rfl, rfl, rfl, rfl, rfl, rfl, rfl, rfl, rfl, rfl, rfl, rfl, rfl, rfl, rfl, rfl, rfl, rfl, rfl, rfl, rfl, rfl, rfl, rfl, rfl, rfl, rfl, rfl, rfl, rfl, trivial⟩ 51 rfl (by decide +kernel) rfl 0 rfl rfl rfl hl.1 rfl (Nat.le_of_ble_eq_true rfl) ⟨Nat.le_refl 0, Nat.le_refl 0⟩ dX7_remove_5 (fun H locs hP hD hS => ?_)
    obtain ⟨rfl, rfl⟩ := some2 he
    exact cRi hx hb hr hlk hK rfl hP hD hS dX7_remove_8
  exact key ss.heap [] rfl rfl hP hS
theorem kX7_fork : yX7_fork.cls = RX7 ∧ yX7_fork.cls ≠ "java/lang/invoke/MethodHandle" ∧ yX7_fork.cls ≠ "java/lang/invoke/VarHandle" ∧ (parseMethodDescriptor yX7_fork.desc).map (fun d => d.parameters.length) = some 1 := by decide +kernel
set_option maxRecDepth 100000 in
set_option maxHeartbeats 4000000 in
theorem mX7_fork (l : Launch) (D : va_G) (k : Nat → ClassId) (d : Nat → Nat) (a : Nat → Nat) (a2 : Nat → Nat) (a3 : Nat → Nat) (h : Nat → Nat) (c : Nat → Nat) (g : Nat → Nat) (t0 : Nat → Nat) (t1 : Nat → Nat) (t2 : Nat → Nat) (t3 : Nat → Nat) (b : Nat) (v : Nat) (o : Nat) (b2 : Nat) {P_0 : Nat → Nat → Int32} {T : Nat → Nat → Int32} {K : Nat → Nat → Int32} {X : Nat → Int32} {Y : Nat → Int32} {C : Nat → Int32} {F : Nat → Int64} {z : Int32} {SO : Nat → Int32} {LE : Nat → Int32} {RO : Nat → Nat → Int64} {hi : Int32} {p1 : Int32} {r : Int32} {P' : Nat → Nat → Int32} (he : xX7_fork P_0 p1 = some (r, P')) : CtI l D k yX7_fork wsX7_fork ({ frames := 3, cells := 0, slots := 0, locals := 69 } : Room) [.ref (d 0), .int p1] (wMain k d a a2 a3 h c g t0 t1 t2 t3 b v o b2 P_0 T K X Y C F z SO LE RO hi) r (wMain k d a a2 a3 h c g t0 t1 t2 t3 b v o b2 P' T K X Y C F z SO LE RO hi) := by
  intro sz9
  refine cSt (lv := [(0, .ref (d 0)), (1, .int p1)]) (own := RX7) (cc := cX7_fork) (nL := 2) (ret := (some .int)) (by decide +kernel) rfl rfl (Nat.le_of_ble_eq_true rfl) rfl ?_
  intro pp ee ss mm bl me co hsz hC0 hP hD hS ls hl
  subst hsz
  obtain ⟨hx, hb, hr, hml, hown, hts, hK, hlk⟩ := hC0
  have hA : ∀ q, ss.heap.size ≤ q → va_A (wMain k d a a2 a3 h c g t0 t1 t2 t3 b v o b2 P_0 T K X Y C F z SO LE RO hi) ss.heap.size q := fun q h => Or.inr h
  have iX7 : ∀ w ∈ wsX70, w ∈ wsX7_fork := fun _ h => List.mem_cons_of_mem _ (List.mem_append_left _ (List.mem_append_left _ (List.mem_append_right _ h)))
  have w1 := hts (.fieldLink RX7 27 "DeadListPool" "acts" "LDeadListPool$Acts;") (List.mem_of_getElem? (i := 1) rfl)
  have hS0 := hS
  have key : ∀ (H : Heap) (locs : List Loc), H = ss.heap → locs = [] → va_P D vwCl (wMain k d a a2 a3 h c g t0 t1 t2 t3 b v o b2 P_0 T K X Y C F z SO LE RO hi) H → va_S (va_A (wMain k d a a2 a3 h c g t0 t1 t2 t3 b v o b2 P_0 T K X Y C F z SO LE RO hi) ss.heap.size) ss.heap H locs → W pp l ee ({ frames := 3, cells := 0, slots := 0, locals := 69 } : Room) ss mm ([.ref (d 0), .int p1] : List Value).toArray bl me co H locs 0 0 (MQ bl (cQi D k (wMain k d a a2 a3 h c g t0 t1 t2 t3 b v o b2 P_0 T K X Y C F z SO LE RO hi) ss.heap.size r (wMain k d a a2 a3 h c g t0 t1 t2 t3 b v o b2 P' T K X Y C F z SO LE RO hi)) ([.ref (d 0), .int p1] : List Value).toArray ss 0 0 (va_A (wMain k d a a2 a3 h c g t0 t1 t2 t3 b v o b2 P_0 T K X Y C F z SO LE RO hi) ss.heap.size)) (F0 mm 0 ls []) := by
    intro H locs _ _ hP hS
    refine lv_aload_n hx hb dX7_fork_0 rfl (lv_at hl 0 rfl) ?_
    refine va_get (D := D) (ci := 7) (v := .ref b) (C := RX7) (T := TX7) (N := 9) hx hb hts iX7 hown hK hP 0 rfl rfl 3 (by decide) w1 (fun _ h9 => h9) rfl dX7_fork_1 ?_
    refine lv_iload_n hx hb dX7_fork_4 rfl (lv_at hl 1 rfl) ?_
    obtain ⟨v1001, P1002, h1003, he⟩ := bn2_i he
    refine cVi (wf := (wMain k d a a2 a3 h c g t0 t1 t2 t3 b v o b2 P1002 T K X Y C F z SO LE RO hi)) (As := [.int p1]) (rest := []) ⟨hx, hb, hml, hown, hts⟩ hK hA hP hD hS (mX0_addFork l D k b a (P_0 := P_0) h1003) (cwV 1 hts gX7_fork_X0_addFork rfl rfl rfl kX0_addFork ⟨Nat.le_of_ble_eq_true rfl, Nat.le_of_ble_eq_true rfl⟩) [32, 2, 3, 4, 5, 6, 7, 8, 9, 10, 11] rfl rfl rfl [true, true, false, false, false, false, false, false, false, false, false, false, true, true, true, true, true, true, true, true, true, true, true, true, true, true, true, true, true, true, true, true, false, true, true, true, true, true, true, true, true, true, true, true, true, true, true, true, true, true, true] ⟨rfl, rfl, rfl, rfl, rfl, rfl, rfl, rfl, rfl, rfl, rfl, rfl, rfl, rfl, rfl, rfl, rfl, rfl, rfl, rfl, rfl, rfl, rfl, rfl, rfl, rfl, rfl, rfl, rfl, rfl, rfl, rfl, rfl, rfl, rfl, rfl, rfl, rfl, rfl, rfl, trivial⟩ 51 rfl (by decide +kernel) rfl 0 rfl rfl rfl hl.1 rfl (Nat.le_of_ble_eq_true rfl) ⟨Nat.le_refl 0, Nat.le_refl 0⟩ dX7_fork_5 (fun H locs hP hD hS => ?_)
    obtain ⟨rfl, rfl⟩ := some2 he
    exact cRi hx hb hr hlk hK rfl hP hD hS dX7_fork_8
  exact key ss.heap [] rfl rfl hP hS
theorem kX7_promote : yX7_promote.cls = RX7 ∧ yX7_promote.cls ≠ "java/lang/invoke/MethodHandle" ∧ yX7_promote.cls ≠ "java/lang/invoke/VarHandle" ∧ (parseMethodDescriptor yX7_promote.desc).map (fun d => d.parameters.length) = some 1 := by decide +kernel
set_option maxRecDepth 100000 in
set_option maxHeartbeats 4000000 in
theorem mX7_promote (l : Launch) (D : va_G) (k : Nat → ClassId) (d : Nat → Nat) (a : Nat → Nat) (a2 : Nat → Nat) (a3 : Nat → Nat) (h : Nat → Nat) (c : Nat → Nat) (g : Nat → Nat) (t0 : Nat → Nat) (t1 : Nat → Nat) (t2 : Nat → Nat) (t3 : Nat → Nat) (b : Nat) (v : Nat) (o : Nat) (b2 : Nat) {P_0 : Nat → Nat → Int32} {T : Nat → Nat → Int32} {K : Nat → Nat → Int32} {X : Nat → Int32} {Y : Nat → Int32} {C : Nat → Int32} {F : Nat → Int64} {z : Int32} {SO : Nat → Int32} {LE : Nat → Int32} {RO : Nat → Nat → Int64} {hi : Int32} {p1 : Int32} {r : Int32} {P' : Nat → Nat → Int32} (he : xX7_promote P_0 p1 = some (r, P')) : CtI l D k yX7_promote wsX7_promote ({ frames := 4, cells := 0, slots := 0, locals := 92 } : Room) [.ref (d 0), .int p1] (wMain k d a a2 a3 h c g t0 t1 t2 t3 b v o b2 P_0 T K X Y C F z SO LE RO hi) r (wMain k d a a2 a3 h c g t0 t1 t2 t3 b v o b2 P' T K X Y C F z SO LE RO hi) := by
  intro sz9
  refine cSt (lv := [(0, .ref (d 0)), (1, .int p1)]) (own := RX7) (cc := cX7_promote) (nL := 2) (ret := (some .int)) (by decide +kernel) rfl rfl (Nat.le_of_ble_eq_true rfl) rfl ?_
  intro pp ee ss mm bl me co hsz hC0 hP hD hS ls hl
  subst hsz
  obtain ⟨hx, hb, hr, hml, hown, hts, hK, hlk⟩ := hC0
  have hA : ∀ q, ss.heap.size ≤ q → va_A (wMain k d a a2 a3 h c g t0 t1 t2 t3 b v o b2 P_0 T K X Y C F z SO LE RO hi) ss.heap.size q := fun q h => Or.inr h
  have iX7 : ∀ w ∈ wsX70, w ∈ wsX7_promote := fun _ h => List.mem_cons_of_mem _ (List.mem_append_left _ (List.mem_append_left _ (List.mem_append_right _ h)))
  have w1 := hts (.fieldLink RX7 27 "DeadListPool" "acts" "LDeadListPool$Acts;") (List.mem_of_getElem? (i := 1) rfl)
  have hS0 := hS
  have key : ∀ (H : Heap) (locs : List Loc), H = ss.heap → locs = [] → va_P D vwCl (wMain k d a a2 a3 h c g t0 t1 t2 t3 b v o b2 P_0 T K X Y C F z SO LE RO hi) H → va_S (va_A (wMain k d a a2 a3 h c g t0 t1 t2 t3 b v o b2 P_0 T K X Y C F z SO LE RO hi) ss.heap.size) ss.heap H locs → W pp l ee ({ frames := 4, cells := 0, slots := 0, locals := 92 } : Room) ss mm ([.ref (d 0), .int p1] : List Value).toArray bl me co H locs 0 0 (MQ bl (cQi D k (wMain k d a a2 a3 h c g t0 t1 t2 t3 b v o b2 P_0 T K X Y C F z SO LE RO hi) ss.heap.size r (wMain k d a a2 a3 h c g t0 t1 t2 t3 b v o b2 P' T K X Y C F z SO LE RO hi)) ([.ref (d 0), .int p1] : List Value).toArray ss 0 0 (va_A (wMain k d a a2 a3 h c g t0 t1 t2 t3 b v o b2 P_0 T K X Y C F z SO LE RO hi) ss.heap.size)) (F0 mm 0 ls []) := by
    intro H locs _ _ hP hS
    refine lv_aload_n hx hb dX7_promote_0 rfl (lv_at hl 0 rfl) ?_
    refine va_get (D := D) (ci := 7) (v := .ref b) (C := RX7) (T := TX7) (N := 9) hx hb hts iX7 hown hK hP 0 rfl rfl 3 (by decide) w1 (fun _ h9 => h9) rfl dX7_promote_1 ?_
    refine lv_iload_n hx hb dX7_promote_4 rfl (lv_at hl 1 rfl) ?_
    obtain ⟨v1001, P1002, h1003, he⟩ := bn2_i he
    refine cVi (wf := (wMain k d a a2 a3 h c g t0 t1 t2 t3 b v o b2 P1002 T K X Y C F z SO LE RO hi)) (As := [.int p1]) (rest := []) ⟨hx, hb, hml, hown, hts⟩ hK hA hP hD hS (mX0_promoteFiles l D k b a (P_0 := P_0) h1003) (cwV 1 hts gX7_promote_X0_promoteFiles rfl rfl rfl kX0_promoteFiles ⟨Nat.le_of_ble_eq_true rfl, Nat.le_of_ble_eq_true rfl⟩) [32, 2, 3, 4, 5, 6, 7, 8, 9, 10, 11] rfl rfl rfl [true, true, false, false, false, false, false, false, false, false, false, false, true, true, true, true, true, true, true, true, true, true, true, true, true, true, true, true, true, true, true, true, false, true, true, true, true, true, true, true, true, true, true, true, true, true, true, true, true, true, true] ⟨rfl, rfl, rfl, rfl, rfl, rfl, rfl, rfl, rfl, rfl, rfl, rfl, rfl, rfl, rfl, rfl, rfl, rfl, rfl, rfl, rfl, rfl, rfl, rfl, rfl, rfl, rfl, rfl, rfl, rfl, rfl, rfl, rfl, rfl, rfl, rfl, rfl, rfl, rfl, rfl, trivial⟩ 51 rfl (by decide +kernel) rfl 0 rfl rfl rfl hl.1 rfl (Nat.le_of_ble_eq_true rfl) ⟨Nat.le_refl 0, Nat.le_refl 0⟩ dX7_promote_5 (fun H locs hP hD hS => ?_)
    obtain ⟨rfl, rfl⟩ := some2 he
    exact cRi hx hb hr hlk hK rfl hP hD hS dX7_promote_8
  exact key ss.heap [] rfl rfl hP hS
theorem kX7_rollback : yX7_rollback.cls = RX7 ∧ yX7_rollback.cls ≠ "java/lang/invoke/MethodHandle" ∧ yX7_rollback.cls ≠ "java/lang/invoke/VarHandle" ∧ (parseMethodDescriptor yX7_rollback.desc).map (fun d => d.parameters.length) = some 1 := by decide +kernel
set_option maxRecDepth 100000 in
set_option maxHeartbeats 4000000 in
theorem mX7_rollback (l : Launch) (D : va_G) (k : Nat → ClassId) (d : Nat → Nat) (a : Nat → Nat) (a2 : Nat → Nat) (a3 : Nat → Nat) (h : Nat → Nat) (c : Nat → Nat) (g : Nat → Nat) (t0 : Nat → Nat) (t1 : Nat → Nat) (t2 : Nat → Nat) (t3 : Nat → Nat) (b : Nat) (v : Nat) (o : Nat) (b2 : Nat) {P_0 : Nat → Nat → Int32} {T : Nat → Nat → Int32} {K : Nat → Nat → Int32} {X : Nat → Int32} {Y : Nat → Int32} {C : Nat → Int32} {F : Nat → Int64} {z : Int32} {SO : Nat → Int32} {LE : Nat → Int32} {RO : Nat → Nat → Int64} {hi : Int32} {p1 : Int32} {r : Int32} {P' : Nat → Nat → Int32} (he : xX7_rollback P_0 p1 = some (r, P')) : CtI l D k yX7_rollback wsX7_rollback ({ frames := 3, cells := 0, slots := 0, locals := 71 } : Room) [.ref (d 0), .int p1] (wMain k d a a2 a3 h c g t0 t1 t2 t3 b v o b2 P_0 T K X Y C F z SO LE RO hi) r (wMain k d a a2 a3 h c g t0 t1 t2 t3 b v o b2 P' T K X Y C F z SO LE RO hi) := by
  intro sz9
  refine cSt (lv := [(0, .ref (d 0)), (1, .int p1)]) (own := RX7) (cc := cX7_rollback) (nL := 2) (ret := (some .int)) (by decide +kernel) rfl rfl (Nat.le_of_ble_eq_true rfl) rfl ?_
  intro pp ee ss mm bl me co hsz hC0 hP hD hS ls hl
  subst hsz
  obtain ⟨hx, hb, hr, hml, hown, hts, hK, hlk⟩ := hC0
  have hA : ∀ q, ss.heap.size ≤ q → va_A (wMain k d a a2 a3 h c g t0 t1 t2 t3 b v o b2 P_0 T K X Y C F z SO LE RO hi) ss.heap.size q := fun q h => Or.inr h
  have iX7 : ∀ w ∈ wsX70, w ∈ wsX7_rollback := fun _ h => List.mem_cons_of_mem _ (List.mem_append_left _ (List.mem_append_left _ (List.mem_append_right _ h)))
  have w1 := hts (.fieldLink RX7 27 "DeadListPool" "acts" "LDeadListPool$Acts;") (List.mem_of_getElem? (i := 1) rfl)
  have hS0 := hS
  have key : ∀ (H : Heap) (locs : List Loc), H = ss.heap → locs = [] → va_P D vwCl (wMain k d a a2 a3 h c g t0 t1 t2 t3 b v o b2 P_0 T K X Y C F z SO LE RO hi) H → va_S (va_A (wMain k d a a2 a3 h c g t0 t1 t2 t3 b v o b2 P_0 T K X Y C F z SO LE RO hi) ss.heap.size) ss.heap H locs → W pp l ee ({ frames := 3, cells := 0, slots := 0, locals := 71 } : Room) ss mm ([.ref (d 0), .int p1] : List Value).toArray bl me co H locs 0 0 (MQ bl (cQi D k (wMain k d a a2 a3 h c g t0 t1 t2 t3 b v o b2 P_0 T K X Y C F z SO LE RO hi) ss.heap.size r (wMain k d a a2 a3 h c g t0 t1 t2 t3 b v o b2 P' T K X Y C F z SO LE RO hi)) ([.ref (d 0), .int p1] : List Value).toArray ss 0 0 (va_A (wMain k d a a2 a3 h c g t0 t1 t2 t3 b v o b2 P_0 T K X Y C F z SO LE RO hi) ss.heap.size)) (F0 mm 0 ls []) := by
    intro H locs _ _ hP hS
    refine lv_aload_n hx hb dX7_rollback_0 rfl (lv_at hl 0 rfl) ?_
    refine va_get (D := D) (ci := 7) (v := .ref b) (C := RX7) (T := TX7) (N := 9) hx hb hts iX7 hown hK hP 0 rfl rfl 3 (by decide) w1 (fun _ h9 => h9) rfl dX7_rollback_1 ?_
    refine lv_iload_n hx hb dX7_rollback_4 rfl (lv_at hl 1 rfl) ?_
    obtain ⟨v1001, P1002, h1003, he⟩ := bn2_i he
    refine cVi (wf := (wMain k d a a2 a3 h c g t0 t1 t2 t3 b v o b2 P1002 T K X Y C F z SO LE RO hi)) (As := [.int p1]) (rest := []) ⟨hx, hb, hml, hown, hts⟩ hK hA hP hD hS (mX0_rollFilesBack l D k b a (P_0 := P_0) h1003) (cwV 1 hts gX7_rollback_X0_rollFilesBack rfl rfl rfl kX0_rollFilesBack ⟨Nat.le_of_ble_eq_true rfl, Nat.le_of_ble_eq_true rfl⟩) [32, 2, 3, 4, 5, 6, 7, 8, 9, 10, 11] rfl rfl rfl [true, true, false, false, false, false, false, false, false, false, false, false, true, true, true, true, true, true, true, true, true, true, true, true, true, true, true, true, true, true, true, true, false, true, true, true, true, true, true, true, true, true, true, true, true, true, true, true, true, true, true] ⟨rfl, rfl, rfl, rfl, rfl, rfl, rfl, rfl, rfl, rfl, rfl, rfl, rfl, rfl, rfl, rfl, rfl, rfl, rfl, rfl, rfl, rfl, rfl, rfl, rfl, rfl, rfl, rfl, rfl, rfl, rfl, rfl, rfl, rfl, rfl, rfl, rfl, rfl, rfl, rfl, trivial⟩ 51 rfl (by decide +kernel) rfl 0 rfl rfl rfl hl.1 rfl (Nat.le_of_ble_eq_true rfl) ⟨Nat.le_refl 0, Nat.le_refl 0⟩ dX7_rollback_5 (fun H locs hP hD hS => ?_)
    obtain ⟨rfl, rfl⟩ := some2 he
    exact cRi hx hb hr hlk hK rfl hP hD hS dX7_rollback_8
  exact key ss.heap [] rfl rfl hP hS
theorem kX7_tick : yX7_tick.cls = RX7 ∧ yX7_tick.cls ≠ "java/lang/invoke/MethodHandle" ∧ yX7_tick.cls ≠ "java/lang/invoke/VarHandle" ∧ (parseMethodDescriptor yX7_tick.desc).map (fun d => d.parameters.length) = some 0 := by decide +kernel
set_option maxRecDepth 100000 in
set_option maxHeartbeats 4000000 in
theorem mX7_tick (l : Launch) (D : va_G) (k : Nat → ClassId) (d : Nat → Nat) (a : Nat → Nat) (a2 : Nat → Nat) (a3 : Nat → Nat) (h : Nat → Nat) (c : Nat → Nat) (g : Nat → Nat) (t0 : Nat → Nat) (t1 : Nat → Nat) (t2 : Nat → Nat) (t3 : Nat → Nat) (b : Nat) (v : Nat) (o : Nat) (b2 : Nat) {P_0 : Nat → Nat → Int32} {T : Nat → Nat → Int32} {K : Nat → Nat → Int32} {X : Nat → Int32} {Y : Nat → Int32} {C : Nat → Int32} {F : Nat → Int64} {z : Int32} {SO : Nat → Int32} {LE : Nat → Int32} {RO : Nat → Nat → Int64} {hi : Int32}  {r : Int32} {P' : Nat → Nat → Int32} (he : xX7_tick P_0 = some (r, P')) : CtI l D k yX7_tick wsX7_tick ({ frames := 2, cells := 0, slots := 0, locals := 41 } : Room) [.ref (d 0)] (wMain k d a a2 a3 h c g t0 t1 t2 t3 b v o b2 P_0 T K X Y C F z SO LE RO hi) r (wMain k d a a2 a3 h c g t0 t1 t2 t3 b v o b2 P' T K X Y C F z SO LE RO hi) := by
  intro sz9
  refine cSt (lv := [(0, .ref (d 0))]) (own := RX7) (cc := cX7_tick) (nL := 1) (ret := (some .int)) (by decide +kernel) rfl rfl (Nat.le_of_ble_eq_true rfl) rfl ?_
  intro pp ee ss mm bl me co hsz hC0 hP hD hS ls hl
  subst hsz
  obtain ⟨hx, hb, hr, hml, hown, hts, hK, hlk⟩ := hC0
  have hA : ∀ q, ss.heap.size ≤ q → va_A (wMain k d a a2 a3 h c g t0 t1 t2 t3 b v o b2 P_0 T K X Y C F z SO LE RO hi) ss.heap.size q := fun q h => Or.inr h
  have iX7 : ∀ w ∈ wsX70, w ∈ wsX7_tick := fun _ h => List.mem_cons_of_mem _ (List.mem_append_left _ (List.mem_append_left _ (List.mem_append_right _ h)))
  have w1 := hts (.fieldLink RX7 27 "DeadListPool" "acts" "LDeadListPool$Acts;") (List.mem_of_getElem? (i := 1) rfl)
  have hS0 := hS
  have key : ∀ (H : Heap) (locs : List Loc), H = ss.heap → locs = [] → va_P D vwCl (wMain k d a a2 a3 h c g t0 t1 t2 t3 b v o b2 P_0 T K X Y C F z SO LE RO hi) H → va_S (va_A (wMain k d a a2 a3 h c g t0 t1 t2 t3 b v o b2 P_0 T K X Y C F z SO LE RO hi) ss.heap.size) ss.heap H locs → W pp l ee ({ frames := 2, cells := 0, slots := 0, locals := 41 } : Room) ss mm ([.ref (d 0)] : List Value).toArray bl me co H locs 0 0 (MQ bl (cQi D k (wMain k d a a2 a3 h c g t0 t1 t2 t3 b v o b2 P_0 T K X Y C F z SO LE RO hi) ss.heap.size r (wMain k d a a2 a3 h c g t0 t1 t2 t3 b v o b2 P' T K X Y C F z SO LE RO hi)) ([.ref (d 0)] : List Value).toArray ss 0 0 (va_A (wMain k d a a2 a3 h c g t0 t1 t2 t3 b v o b2 P_0 T K X Y C F z SO LE RO hi) ss.heap.size)) (F0 mm 0 ls []) := by
    intro H locs _ _ hP hS
    refine lv_aload_n hx hb dX7_tick_0 rfl (lv_at hl 0 rfl) ?_
    refine va_get (D := D) (ci := 7) (v := .ref b) (C := RX7) (T := TX7) (N := 9) hx hb hts iX7 hown hK hP 0 rfl rfl 3 (by decide) w1 (fun _ h9 => h9) rfl dX7_tick_1 ?_
    obtain ⟨v1001, P1002, h1003, he⟩ := bn2_i he
    refine cVi (wf := (wMain k d a a2 a3 h c g t0 t1 t2 t3 b v o b2 P1002 T K X Y C F z SO LE RO hi)) (As := []) (rest := []) ⟨hx, hb, hml, hown, hts⟩ hK hA hP hD hS (mX0_passTime l D k b a (P_0 := P_0) h1003) (cwV 0 hts gX7_tick_X0_passTime rfl rfl rfl kX0_passTime ⟨Nat.le_of_ble_eq_true rfl, Nat.le_of_ble_eq_true rfl⟩) [32, 2, 3, 4, 5, 6, 7, 8, 9, 10, 11] rfl rfl rfl [true, true, false, false, false, false, false, false, false, false, false, false, true, true, true, true, true, true, true, true, true, true, true, true, true, true, true, true, true, true, true, true, false, true, true, true, true, true, true, true, true, true, true, true, true, true, true, true, true, true, true] ⟨rfl, rfl, rfl, rfl, rfl, rfl, rfl, rfl, rfl, rfl, rfl, rfl, rfl, rfl, rfl, rfl, rfl, rfl, rfl, rfl, rfl, rfl, rfl, rfl, rfl, rfl, rfl, rfl, rfl, rfl, rfl, rfl, rfl, rfl, rfl, rfl, rfl, rfl, rfl, rfl, trivial⟩ 51 rfl (by decide +kernel) rfl 0 rfl rfl rfl hl.1 rfl (Nat.le_of_ble_eq_true rfl) ⟨Nat.le_refl 0, Nat.le_refl 0⟩ dX7_tick_4 (fun H locs hP hD hS => ?_)
    obtain ⟨rfl, rfl⟩ := some2 he
    exact cRi hx hb hr hlk hK rfl hP hD hS dX7_tick_7
  exact key ss.heap [] rfl rfl hP hS
theorem kX7_told : yX7_told.cls = RX7 ∧ yX7_told.cls ≠ "java/lang/invoke/MethodHandle" ∧ yX7_told.cls ≠ "java/lang/invoke/VarHandle" ∧ (parseMethodDescriptor yX7_told.desc).map (fun d => d.parameters.length) = some 2 := by decide +kernel
set_option maxRecDepth 100000 in
set_option maxHeartbeats 4000000 in
theorem mX7_told (l : Launch) (D : va_G) (k : Nat → ClassId) (d : Nat → Nat) (a : Nat → Nat) (a2 : Nat → Nat) (a3 : Nat → Nat) (h : Nat → Nat) (c : Nat → Nat) (g : Nat → Nat) (t0 : Nat → Nat) (t1 : Nat → Nat) (t2 : Nat → Nat) (t3 : Nat → Nat) (b : Nat) (v : Nat) (o : Nat) (b2 : Nat) {P : Nat → Nat → Int32} {T : Nat → Nat → Int32} {K : Nat → Nat → Int32} {X : Nat → Int32} {Y : Nat → Int32} {C : Nat → Int32} {F : Nat → Int64} {z : Int32} {SO : Nat → Int32} {LE : Nat → Int32} {RO : Nat → Nat → Int64} {hi : Int32} {p1 : Int32} {p2 : Int32} {r : Int32}  (he : xX7_told P p1 p2 = some r) : CtI l D k yX7_told wsX7_told ({ frames := 4, cells := 0, slots := 0, locals := 89 } : Room) [.ref (d 0), .int p1, .int p2] (wMain k d a a2 a3 h c g t0 t1 t2 t3 b v o b2 P T K X Y C F z SO LE RO hi) r (wMain k d a a2 a3 h c g t0 t1 t2 t3 b v o b2 P T K X Y C F z SO LE RO hi) := by
  intro sz9
  refine cSt (lv := [(0, .ref (d 0)), (1, .int p1), (2, .int p2)]) (own := RX7) (cc := cX7_told) (nL := 3) (ret := (some .int)) (by decide +kernel) rfl rfl (Nat.le_of_ble_eq_true rfl) rfl ?_
  intro pp ee ss mm bl me co hsz hC0 hP hD hS ls hl
  subst hsz
  obtain ⟨hx, hb, hr, hml, hown, hts, hK, hlk⟩ := hC0
  have hA : ∀ q, ss.heap.size ≤ q → va_A (wMain k d a a2 a3 h c g t0 t1 t2 t3 b v o b2 P T K X Y C F z SO LE RO hi) ss.heap.size q := fun q h => Or.inr h
  have iX7 : ∀ w ∈ wsX70, w ∈ wsX7_told := fun _ h => List.mem_cons_of_mem _ (List.mem_append_left _ (List.mem_append_left _ (List.mem_append_right _ h)))
  have w1 := hts (.fieldLink RX7 34 "DeadListPool" "survey" "LDeadListPool$Survey;") (List.mem_of_getElem? (i := 1) rfl)
  have hS0 := hS
  have key : ∀ (H : Heap) (locs : List Loc), H = ss.heap → locs = [] → va_P D vwCl (wMain k d a a2 a3 h c g t0 t1 t2 t3 b v o b2 P T K X Y C F z SO LE RO hi) H → va_S (va_A (wMain k d a a2 a3 h c g t0 t1 t2 t3 b v o b2 P T K X Y C F z SO LE RO hi) ss.heap.size) ss.heap H locs → W pp l ee ({ frames := 4, cells := 0, slots := 0, locals := 89 } : Room) ss mm ([.ref (d 0), .int p1, .int p2] : List Value).toArray bl me co H locs 0 0 (MQ bl (cQi D k (wMain k d a a2 a3 h c g t0 t1 t2 t3 b v o b2 P T K X Y C F z SO LE RO hi) ss.heap.size r (wMain k d a a2 a3 h c g t0 t1 t2 t3 b v o b2 P T K X Y C F z SO LE RO hi)) ([.ref (d 0), .int p1, .int p2] : List Value).toArray ss 0 0 (va_A (wMain k d a a2 a3 h c g t0 t1 t2 t3 b v o b2 P T K X Y C F z SO LE RO hi) ss.heap.size)) (F0 mm 0 ls []) := by
    intro H locs _ _ hP hS
    refine lv_aload_n hx hb dX7_told_0 rfl (lv_at hl 0 rfl) ?_
    refine va_get (D := D) (ci := 7) (v := .ref v) (C := RX7) (T := TX7) (N := 9) hx hb hts iX7 hown hK hP 0 rfl rfl 4 (by decide) w1 (fun _ h9 => h9) rfl dX7_told_1 ?_
    refine lv_iload_n hx hb dX7_told_4 rfl (lv_at hl 1 rfl) ?_
    refine lv_iload_n hx hb dX7_told_5 rfl (lv_at hl 2 rfl) ?_
    obtain ⟨v1001, h1002, he⟩ := bn1_i he
    refine cVir (As := [.int p1, .int p2]) (rest := []) ⟨hx, hb, hml, hown, hts⟩ hK hA hP hD hS (mX6_tellThing l D k v h a (P := P) (X := X) h1002) (cwV 2 hts gX7_told_X6_tellThing rfl rfl rfl kX6_tellThing ⟨Nat.le_of_ble_eq_true rfl, Nat.le_of_ble_eq_true rfl⟩) [33, 34, 35, 2, 3, 4, 5, 6, 7, 8, 9, 10, 11] rfl rfl 0 rfl rfl rfl hl.1 rfl (Nat.le_of_ble_eq_true rfl) ⟨Nat.le_refl 0, Nat.le_refl 0⟩ dX7_told_6 (fun H locs hP hD hS => ?_)
    obtain rfl := some1 he
    exact cRi hx hb hr hlk hK rfl hP hD hS dX7_told_9
  exact key ss.heap [] rfl rfl hP hS
theorem kX7_slot : yX7_slot.cls = RX7 ∧ yX7_slot.cls ≠ "java/lang/invoke/MethodHandle" ∧ yX7_slot.cls ≠ "java/lang/invoke/VarHandle" ∧ (parseMethodDescriptor yX7_slot.desc).map (fun d => d.parameters.length) = some 2 := by decide +kernel
set_option maxRecDepth 100000 in
set_option maxHeartbeats 4000000 in
theorem mX7_slot (l : Launch) (D : va_G) (k : Nat → ClassId) (d : Nat → Nat) (a : Nat → Nat) (a2 : Nat → Nat) (a3 : Nat → Nat) (h : Nat → Nat) (c : Nat → Nat) (g : Nat → Nat) (t0 : Nat → Nat) (t1 : Nat → Nat) (t2 : Nat → Nat) (t3 : Nat → Nat) (b : Nat) (v : Nat) (o : Nat) (b2 : Nat) {P : Nat → Nat → Int32} {T : Nat → Nat → Int32} {K : Nat → Nat → Int32} {X : Nat → Int32} {Y : Nat → Int32} {C : Nat → Int32} {F : Nat → Int64} {z : Int32} {SO : Nat → Int32} {LE : Nat → Int32} {RO : Nat → Nat → Int64} {hi : Int32} {p1 : Int32} {p2 : Int32} {r : Int32}  (he : xX7_slot P p1 p2 = some r) : CtI l D k yX7_slot wsX7_slot ({ frames := 3, cells := 0, slots := 0, locals := 66 } : Room) [.ref (d 0), .int p1, .int p2] (wMain k d a a2 a3 h c g t0 t1 t2 t3 b v o b2 P T K X Y C F z SO LE RO hi) r (wMain k d a a2 a3 h c g t0 t1 t2 t3 b v o b2 P T K X Y C F z SO LE RO hi) := by
  intro sz9
  refine cSt (lv := [(0, .ref (d 0)), (1, .int p1), (2, .int p2)]) (own := RX7) (cc := cX7_slot) (nL := 3) (ret := (some .int)) (by decide +kernel) rfl rfl (Nat.le_of_ble_eq_true rfl) rfl ?_
  intro pp ee ss mm bl me co hsz hC0 hP hD hS ls hl
  subst hsz
  obtain ⟨hx, hb, hr, hml, hown, hts, hK, hlk⟩ := hC0
  have hA : ∀ q, ss.heap.size ≤ q → va_A (wMain k d a a2 a3 h c g t0 t1 t2 t3 b v o b2 P T K X Y C F z SO LE RO hi) ss.heap.size q := fun q h => Or.inr h
  have iX7 : ∀ w ∈ wsX70, w ∈ wsX7_slot := fun _ h => List.mem_cons_of_mem _ (List.mem_append_left _ (List.mem_append_left _ (List.mem_append_right _ h)))
  have w1 := hts (.fieldLink RX7 34 "DeadListPool" "survey" "LDeadListPool$Survey;") (List.mem_of_getElem? (i := 1) rfl)
  have hS0 := hS
  have key : ∀ (H : Heap) (locs : List Loc), H = ss.heap → locs = [] → va_P D vwCl (wMain k d a a2 a3 h c g t0 t1 t2 t3 b v o b2 P T K X Y C F z SO LE RO hi) H → va_S (va_A (wMain k d a a2 a3 h c g t0 t1 t2 t3 b v o b2 P T K X Y C F z SO LE RO hi) ss.heap.size) ss.heap H locs → W pp l ee ({ frames := 3, cells := 0, slots := 0, locals := 66 } : Room) ss mm ([.ref (d 0), .int p1, .int p2] : List Value).toArray bl me co H locs 0 0 (MQ bl (cQi D k (wMain k d a a2 a3 h c g t0 t1 t2 t3 b v o b2 P T K X Y C F z SO LE RO hi) ss.heap.size r (wMain k d a a2 a3 h c g t0 t1 t2 t3 b v o b2 P T K X Y C F z SO LE RO hi)) ([.ref (d 0), .int p1, .int p2] : List Value).toArray ss 0 0 (va_A (wMain k d a a2 a3 h c g t0 t1 t2 t3 b v o b2 P T K X Y C F z SO LE RO hi) ss.heap.size)) (F0 mm 0 ls []) := by
    intro H locs _ _ hP hS
    refine lv_aload_n hx hb dX7_slot_0 rfl (lv_at hl 0 rfl) ?_
    refine va_get (D := D) (ci := 7) (v := .ref v) (C := RX7) (T := TX7) (N := 9) hx hb hts iX7 hown hK hP 0 rfl rfl 4 (by decide) w1 (fun _ h9 => h9) rfl dX7_slot_1 ?_
    refine lv_iload_n hx hb dX7_slot_4 rfl (lv_at hl 1 rfl) ?_
    refine lv_iload_n hx hb dX7_slot_5 rfl (lv_at hl 2 rfl) ?_
    obtain ⟨v1001, h1002, he⟩ := bn1_i he
    refine cVir (As := [.int p1, .int p2]) (rest := []) ⟨hx, hb, hml, hown, hts⟩ hK hA hP hD hS (mX6_tellSlot l D k v h a (P := P) (X := X) h1002) (cwV 2 hts gX7_slot_X6_tellSlot rfl rfl rfl kX6_tellSlot ⟨Nat.le_of_ble_eq_true rfl, Nat.le_of_ble_eq_true rfl⟩) [33, 34, 35, 2, 3, 4, 5, 6, 7, 8, 9, 10, 11] rfl rfl 0 rfl rfl rfl hl.1 rfl (Nat.le_of_ble_eq_true rfl) ⟨Nat.le_refl 0, Nat.le_refl 0⟩ dX7_slot_6 (fun H locs hP hD hS => ?_)
    obtain rfl := some1 he
    exact cRi hx hb hr hlk hK rfl hP hD hS dX7_slot_9
  exact key ss.heap [] rfl rfl hP hS
theorem kX7_block : yX7_block.cls = RX7 ∧ yX7_block.cls ≠ "java/lang/invoke/MethodHandle" ∧ yX7_block.cls ≠ "java/lang/invoke/VarHandle" ∧ (parseMethodDescriptor yX7_block.desc).map (fun d => d.parameters.length) = some 2 := by decide +kernel
set_option maxRecDepth 100000 in
set_option maxHeartbeats 4000000 in
theorem mX7_block (l : Launch) (D : va_G) (k : Nat → ClassId) (d : Nat → Nat) (a : Nat → Nat) (a2 : Nat → Nat) (a3 : Nat → Nat) (h : Nat → Nat) (c : Nat → Nat) (g : Nat → Nat) (t0 : Nat → Nat) (t1 : Nat → Nat) (t2 : Nat → Nat) (t3 : Nat → Nat) (b : Nat) (v : Nat) (o : Nat) (b2 : Nat) {P : Nat → Nat → Int32} {T : Nat → Nat → Int32} {K : Nat → Nat → Int32} {X_0 : Nat → Int32} {Y : Nat → Int32} {C : Nat → Int32} {F : Nat → Int64} {z : Int32} {SO : Nat → Int32} {LE : Nat → Int32} {RO : Nat → Nat → Int64} {hi : Int32} {p1 : Int32} {p2 : Int32} {r : Int32} {X' : Nat → Int32} (he : xX7_block P X_0 p1 p2 = some (r, X')) : CtI l D k yX7_block wsX7_block ({ frames := 3, cells := 0, slots := 0, locals := 67 } : Room) [.ref (d 0), .int p1, .int p2] (wMain k d a a2 a3 h c g t0 t1 t2 t3 b v o b2 P T K X_0 Y C F z SO LE RO hi) r (wMain k d a a2 a3 h c g t0 t1 t2 t3 b v o b2 P T K X' Y C F z SO LE RO hi) := by
  intro sz9
  refine cSt (lv := [(0, .ref (d 0)), (1, .int p1), (2, .int p2)]) (own := RX7) (cc := cX7_block) (nL := 3) (ret := (some .int)) (by decide +kernel) rfl rfl (Nat.le_of_ble_eq_true rfl) rfl ?_
  intro pp ee ss mm bl me co hsz hC0 hP hD hS ls hl
  subst hsz
  obtain ⟨hx, hb, hr, hml, hown, hts, hK, hlk⟩ := hC0
  have hA : ∀ q, ss.heap.size ≤ q → va_A (wMain k d a a2 a3 h c g t0 t1 t2 t3 b v o b2 P T K X_0 Y C F z SO LE RO hi) ss.heap.size q := fun q h => Or.inr h
  have iX7 : ∀ w ∈ wsX70, w ∈ wsX7_block := fun _ h => List.mem_cons_of_mem _ (List.mem_append_left _ (List.mem_append_left _ (List.mem_append_left _ (List.mem_append_right _ h))))
  have w1 := hts (.fieldLink RX7 34 "DeadListPool" "survey" "LDeadListPool$Survey;") (List.mem_of_getElem? (i := 1) rfl)
  have hS0 := hS
  have key : ∀ (H : Heap) (locs : List Loc), H = ss.heap → locs = [] → va_P D vwCl (wMain k d a a2 a3 h c g t0 t1 t2 t3 b v o b2 P T K X_0 Y C F z SO LE RO hi) H → va_S (va_A (wMain k d a a2 a3 h c g t0 t1 t2 t3 b v o b2 P T K X_0 Y C F z SO LE RO hi) ss.heap.size) ss.heap H locs → W pp l ee ({ frames := 3, cells := 0, slots := 0, locals := 67 } : Room) ss mm ([.ref (d 0), .int p1, .int p2] : List Value).toArray bl me co H locs 0 0 (MQ bl (cQi D k (wMain k d a a2 a3 h c g t0 t1 t2 t3 b v o b2 P T K X_0 Y C F z SO LE RO hi) ss.heap.size r (wMain k d a a2 a3 h c g t0 t1 t2 t3 b v o b2 P T K X' Y C F z SO LE RO hi)) ([.ref (d 0), .int p1, .int p2] : List Value).toArray ss 0 0 (va_A (wMain k d a a2 a3 h c g t0 t1 t2 t3 b v o b2 P T K X_0 Y C F z SO LE RO hi) ss.heap.size)) (F0 mm 0 ls []) := by
    intro H locs _ _ hP hS
    refine lv_aload_n hx hb dX7_block_0 rfl (lv_at hl 0 rfl) ?_
    refine va_get (D := D) (ci := 7) (v := .ref v) (C := RX7) (T := TX7) (N := 9) hx hb hts iX7 hown hK hP 0 rfl rfl 4 (by decide) w1 (fun _ h9 => h9) rfl dX7_block_1 ?_
    refine lv_iload_n hx hb dX7_block_4 rfl (lv_at hl 1 rfl) ?_
    refine lv_iload_n hx hb dX7_block_5 rfl (lv_at hl 2 rfl) ?_
    obtain ⟨v1001, X1002, h1003, he⟩ := bn2_i he
    refine cVi (wf := (wMain k d a a2 a3 h c g t0 t1 t2 t3 b v o b2 P T K X1002 Y C F z SO LE RO hi)) (As := [.int p1, .int p2]) (rest := []) ⟨hx, hb, hml, hown, hts⟩ hK hA hP hD hS (mX6_tellBlock l D k v h a (P := P) (X_0 := X_0) h1003) (cwV 2 hts gX7_block_X6_tellBlock rfl rfl rfl kX6_tellBlock ⟨Nat.le_of_ble_eq_true rfl, Nat.le_of_ble_eq_true rfl⟩) [33, 34, 35, 2, 3, 4, 5, 6, 7, 8, 9, 10, 11] rfl rfl rfl [true, true, false, false, false, false, false, false, false, false, false, false, true, true, true, true, true, true, true, true, true, true, true, true, true, true, true, true, true, true, true, true, true, false, false, false, true, true, true, true, true, true, true, true, true, true, true, true, true, true, true] ⟨rfl, rfl, rfl, rfl, rfl, rfl, rfl, rfl, rfl, rfl, rfl, rfl, rfl, rfl, rfl, rfl, rfl, rfl, rfl, rfl, rfl, rfl, rfl, rfl, rfl, rfl, rfl, rfl, rfl, rfl, rfl, rfl, rfl, rfl, rfl, rfl, rfl, rfl, trivial⟩ 51 rfl (by decide +kernel) rfl 0 rfl rfl rfl hl.1 rfl (Nat.le_of_ble_eq_true rfl) ⟨Nat.le_refl 0, Nat.le_refl 0⟩ dX7_block_6 (fun H locs hP hD hS => ?_)
    obtain ⟨rfl, rfl⟩ := some2 he
    exact cRi hx hb hr hlk hK rfl hP hD hS dX7_block_9
  exact key ss.heap [] rfl rfl hP hS
theorem kX7_taken : yX7_taken.cls = RX7 ∧ yX7_taken.cls ≠ "java/lang/invoke/MethodHandle" ∧ yX7_taken.cls ≠ "java/lang/invoke/VarHandle" ∧ (parseMethodDescriptor yX7_taken.desc).map (fun d => d.parameters.length) = some 2 := by decide +kernel
set_option maxRecDepth 100000 in
set_option maxHeartbeats 4000000 in
theorem mX7_taken (l : Launch) (D : va_G) (k : Nat → ClassId) (d : Nat → Nat) (a : Nat → Nat) (a2 : Nat → Nat) (a3 : Nat → Nat) (h : Nat → Nat) (c : Nat → Nat) (g : Nat → Nat) (t0 : Nat → Nat) (t1 : Nat → Nat) (t2 : Nat → Nat) (t3 : Nat → Nat) (b : Nat) (v : Nat) (o : Nat) (b2 : Nat) {P : Nat → Nat → Int32} {T : Nat → Nat → Int32} {K : Nat → Nat → Int32} {X : Nat → Int32} {Y : Nat → Int32} {C : Nat → Int32} {F : Nat → Int64} {z : Int32} {SO : Nat → Int32} {LE : Nat → Int32} {RO : Nat → Nat → Int64} {hi : Int32} {p1 : Int32} {p2 : Int32} {r : Int32}  (he : xX7_taken P p1 p2 = some r) : CtI l D k yX7_taken wsX7_taken ({ frames := 3, cells := 0, slots := 0, locals := 69 } : Room) [.ref (d 0), .int p1, .int p2] (wMain k d a a2 a3 h c g t0 t1 t2 t3 b v o b2 P T K X Y C F z SO LE RO hi) r (wMain k d a a2 a3 h c g t0 t1 t2 t3 b v o b2 P T K X Y C F z SO LE RO hi) := by
  intro sz9
  refine cSt (lv := [(0, .ref (d 0)), (1, .int p1), (2, .int p2)]) (own := RX7) (cc := cX7_taken) (nL := 3) (ret := (some .int)) (by decide +kernel) rfl rfl (Nat.le_of_ble_eq_true rfl) rfl ?_
  intro pp ee ss mm bl me co hsz hC0 hP hD hS ls hl
  subst hsz
  obtain ⟨hx, hb, hr, hml, hown, hts, hK, hlk⟩ := hC0
  have hA : ∀ q, ss.heap.size ≤ q → va_A (wMain k d a a2 a3 h c g t0 t1 t2 t3 b v o b2 P T K X Y C F z SO LE RO hi) ss.heap.size q := fun q h => Or.inr h
  have iX7 : ∀ w ∈ wsX70, w ∈ wsX7_taken := fun _ h => List.mem_cons_of_mem _ (List.mem_append_left _ (List.mem_append_left _ (List.mem_append_right _ h)))
  have w1 := hts (.fieldLink RX7 34 "DeadListPool" "survey" "LDeadListPool$Survey;") (List.mem_of_getElem? (i := 1) rfl)
  have hS0 := hS
  have key : ∀ (H : Heap) (locs : List Loc), H = ss.heap → locs = [] → va_P D vwCl (wMain k d a a2 a3 h c g t0 t1 t2 t3 b v o b2 P T K X Y C F z SO LE RO hi) H → va_S (va_A (wMain k d a a2 a3 h c g t0 t1 t2 t3 b v o b2 P T K X Y C F z SO LE RO hi) ss.heap.size) ss.heap H locs → W pp l ee ({ frames := 3, cells := 0, slots := 0, locals := 69 } : Room) ss mm ([.ref (d 0), .int p1, .int p2] : List Value).toArray bl me co H locs 0 0 (MQ bl (cQi D k (wMain k d a a2 a3 h c g t0 t1 t2 t3 b v o b2 P T K X Y C F z SO LE RO hi) ss.heap.size r (wMain k d a a2 a3 h c g t0 t1 t2 t3 b v o b2 P T K X Y C F z SO LE RO hi)) ([.ref (d 0), .int p1, .int p2] : List Value).toArray ss 0 0 (va_A (wMain k d a a2 a3 h c g t0 t1 t2 t3 b v o b2 P T K X Y C F z SO LE RO hi) ss.heap.size)) (F0 mm 0 ls []) := by
    intro H locs _ _ hP hS
    refine lv_aload_n hx hb dX7_taken_0 rfl (lv_at hl 0 rfl) ?_
    refine va_get (D := D) (ci := 7) (v := .ref v) (C := RX7) (T := TX7) (N := 9) hx hb hts iX7 hown hK hP 0 rfl rfl 4 (by decide) w1 (fun _ h9 => h9) rfl dX7_taken_1 ?_
    refine lv_iload_n hx hb dX7_taken_4 rfl (lv_at hl 1 rfl) ?_
    refine lv_iload_n hx hb dX7_taken_5 rfl (lv_at hl 2 rfl) ?_
    obtain ⟨v1001, h1002, he⟩ := bn1_i he
    refine cVir (As := [.int p1, .int p2]) (rest := []) ⟨hx, hb, hml, hown, hts⟩ hK hA hP hD hS (mX6_tellTaken l D k v h a (P := P) (X := X) h1002) (cwV 2 hts gX7_taken_X6_tellTaken rfl rfl rfl kX6_tellTaken ⟨Nat.le_of_ble_eq_true rfl, Nat.le_of_ble_eq_true rfl⟩) [33, 34, 35, 2, 3, 4, 5, 6, 7, 8, 9, 10, 11] rfl rfl 0 rfl rfl rfl hl.1 rfl (Nat.le_of_ble_eq_true rfl) ⟨Nat.le_refl 0, Nat.le_refl 0⟩ dX7_taken_6 (fun H locs hP hD hS => ?_)
    obtain rfl := some1 he
    exact cRi hx hb hr hlk hK rfl hP hD hS dX7_taken_9
  exact key ss.heap [] rfl rfl hP hS
theorem kX7_dead : yX7_dead.cls = RX7 ∧ yX7_dead.cls ≠ "java/lang/invoke/MethodHandle" ∧ yX7_dead.cls ≠ "java/lang/invoke/VarHandle" ∧ (parseMethodDescriptor yX7_dead.desc).map (fun d => d.parameters.length) = some 2 := by decide +kernel
set_option maxRecDepth 100000 in
set_option maxHeartbeats 4000000 in
theorem mX7_dead (l : Launch) (D : va_G) (k : Nat → ClassId) (d : Nat → Nat) (a : Nat → Nat) (a2 : Nat → Nat) (a3 : Nat → Nat) (h : Nat → Nat) (c : Nat → Nat) (g : Nat → Nat) (t0 : Nat → Nat) (t1 : Nat → Nat) (t2 : Nat → Nat) (t3 : Nat → Nat) (b : Nat) (v : Nat) (o : Nat) (b2 : Nat) {P : Nat → Nat → Int32} {T : Nat → Nat → Int32} {K : Nat → Nat → Int32} {X : Nat → Int32} {Y : Nat → Int32} {C : Nat → Int32} {F : Nat → Int64} {z : Int32} {SO : Nat → Int32} {LE : Nat → Int32} {RO : Nat → Nat → Int64} {hi : Int32} {p1 : Int32} {p2 : Int32} {r : Int32}  (he : xX7_dead P p1 p2 = some r) : CtI l D k yX7_dead wsX7_dead ({ frames := 3, cells := 0, slots := 0, locals := 73 } : Room) [.ref (d 0), .int p1, .int p2] (wMain k d a a2 a3 h c g t0 t1 t2 t3 b v o b2 P T K X Y C F z SO LE RO hi) r (wMain k d a a2 a3 h c g t0 t1 t2 t3 b v o b2 P T K X Y C F z SO LE RO hi) := by
  intro sz9
  refine cSt (lv := [(0, .ref (d 0)), (1, .int p1), (2, .int p2)]) (own := RX7) (cc := cX7_dead) (nL := 3) (ret := (some .int)) (by decide +kernel) rfl rfl (Nat.le_of_ble_eq_true rfl) rfl ?_
  intro pp ee ss mm bl me co hsz hC0 hP hD hS ls hl
  subst hsz
  obtain ⟨hx, hb, hr, hml, hown, hts, hK, hlk⟩ := hC0
  have hA : ∀ q, ss.heap.size ≤ q → va_A (wMain k d a a2 a3 h c g t0 t1 t2 t3 b v o b2 P T K X Y C F z SO LE RO hi) ss.heap.size q := fun q h => Or.inr h
  have iX7 : ∀ w ∈ wsX70, w ∈ wsX7_dead := fun _ h => List.mem_cons_of_mem _ (List.mem_append_left _ (List.mem_append_left _ (List.mem_append_right _ h)))
  have w1 := hts (.fieldLink RX7 34 "DeadListPool" "survey" "LDeadListPool$Survey;") (List.mem_of_getElem? (i := 1) rfl)
  have hS0 := hS
  have key : ∀ (H : Heap) (locs : List Loc), H = ss.heap → locs = [] → va_P D vwCl (wMain k d a a2 a3 h c g t0 t1 t2 t3 b v o b2 P T K X Y C F z SO LE RO hi) H → va_S (va_A (wMain k d a a2 a3 h c g t0 t1 t2 t3 b v o b2 P T K X Y C F z SO LE RO hi) ss.heap.size) ss.heap H locs → W pp l ee ({ frames := 3, cells := 0, slots := 0, locals := 73 } : Room) ss mm ([.ref (d 0), .int p1, .int p2] : List Value).toArray bl me co H locs 0 0 (MQ bl (cQi D k (wMain k d a a2 a3 h c g t0 t1 t2 t3 b v o b2 P T K X Y C F z SO LE RO hi) ss.heap.size r (wMain k d a a2 a3 h c g t0 t1 t2 t3 b v o b2 P T K X Y C F z SO LE RO hi)) ([.ref (d 0), .int p1, .int p2] : List Value).toArray ss 0 0 (va_A (wMain k d a a2 a3 h c g t0 t1 t2 t3 b v o b2 P T K X Y C F z SO LE RO hi) ss.heap.size)) (F0 mm 0 ls []) := by
    intro H locs _ _ hP hS
    refine lv_aload_n hx hb dX7_dead_0 rfl (lv_at hl 0 rfl) ?_
    refine va_get (D := D) (ci := 7) (v := .ref v) (C := RX7) (T := TX7) (N := 9) hx hb hts iX7 hown hK hP 0 rfl rfl 4 (by decide) w1 (fun _ h9 => h9) rfl dX7_dead_1 ?_
    refine lv_iload_n hx hb dX7_dead_4 rfl (lv_at hl 1 rfl) ?_
    refine lv_iload_n hx hb dX7_dead_5 rfl (lv_at hl 2 rfl) ?_
    obtain ⟨v1001, h1002, he⟩ := bn1_i he
    refine cVir (As := [.int p1, .int p2]) (rest := []) ⟨hx, hb, hml, hown, hts⟩ hK hA hP hD hS (mX6_tellDead l D k v h a (P := P) (X := X) h1002) (cwV 2 hts gX7_dead_X6_tellDead rfl rfl rfl kX6_tellDead ⟨Nat.le_of_ble_eq_true rfl, Nat.le_of_ble_eq_true rfl⟩) [33, 34, 35, 2, 3, 4, 5, 6, 7, 8, 9, 10, 11] rfl rfl 0 rfl rfl rfl hl.1 rfl (Nat.le_of_ble_eq_true rfl) ⟨Nat.le_refl 0, Nat.le_refl 0⟩ dX7_dead_6 (fun H locs hP hD hS => ?_)
    obtain rfl := some1 he
    exact cRi hx hb hr hlk hK rfl hP hD hS dX7_dead_9
  exact key ss.heap [] rfl rfl hP hS
theorem kX7_deadList : yX7_deadList.cls = RX7 ∧ yX7_deadList.cls ≠ "java/lang/invoke/MethodHandle" ∧ yX7_deadList.cls ≠ "java/lang/invoke/VarHandle" ∧ (parseMethodDescriptor yX7_deadList.desc).map (fun d => d.parameters.length) = some 2 := by decide +kernel
set_option maxRecDepth 100000 in
set_option maxHeartbeats 4000000 in
theorem mX7_deadList (l : Launch) (D : va_G) (k : Nat → ClassId) (d : Nat → Nat) (a : Nat → Nat) (a2 : Nat → Nat) (a3 : Nat → Nat) (h : Nat → Nat) (c : Nat → Nat) (g : Nat → Nat) (t0 : Nat → Nat) (t1 : Nat → Nat) (t2 : Nat → Nat) (t3 : Nat → Nat) (b : Nat) (v : Nat) (o : Nat) (b2 : Nat) {P : Nat → Nat → Int32} {T : Nat → Nat → Int32} {K : Nat → Nat → Int32} {X : Nat → Int32} {Y : Nat → Int32} {C : Nat → Int32} {F : Nat → Int64} {z : Int32} {SO : Nat → Int32} {LE : Nat → Int32} {RO : Nat → Nat → Int64} {hi : Int32} {p1 : Int32} {p2 : Int32} {r : Int64}  (he : xX7_deadList P p1 p2 = some r) : CtL l D k yX7_deadList wsX7_deadList ({ frames := 3, cells := 0, slots := 0, locals := 74 } : Room) [.ref (d 0), .int p1, .int p2] (wMain k d a a2 a3 h c g t0 t1 t2 t3 b v o b2 P T K X Y C F z SO LE RO hi) r (wMain k d a a2 a3 h c g t0 t1 t2 t3 b v o b2 P T K X Y C F z SO LE RO hi) := by
  intro sz9
  refine cSt (lv := [(0, .ref (d 0)), (1, .int p1), (2, .int p2)]) (own := RX7) (cc := cX7_deadList) (nL := 3) (ret := (some .long)) (by decide +kernel) rfl rfl (Nat.le_of_ble_eq_true rfl) rfl ?_
  intro pp ee ss mm bl me co hsz hC0 hP hD hS ls hl
  subst hsz
  obtain ⟨hx, hb, hr, hml, hown, hts, hK, hlk⟩ := hC0
  have hA : ∀ q, ss.heap.size ≤ q → va_A (wMain k d a a2 a3 h c g t0 t1 t2 t3 b v o b2 P T K X Y C F z SO LE RO hi) ss.heap.size q := fun q h => Or.inr h
  have iX7 : ∀ w ∈ wsX70, w ∈ wsX7_deadList := fun _ h => List.mem_cons_of_mem _ (List.mem_append_left _ (List.mem_append_left _ (List.mem_append_right _ h)))
  have w1 := hts (.fieldLink RX7 34 "DeadListPool" "survey" "LDeadListPool$Survey;") (List.mem_of_getElem? (i := 1) rfl)
  have hS0 := hS
  have key : ∀ (H : Heap) (locs : List Loc), H = ss.heap → locs = [] → va_P D vwCl (wMain k d a a2 a3 h c g t0 t1 t2 t3 b v o b2 P T K X Y C F z SO LE RO hi) H → va_S (va_A (wMain k d a a2 a3 h c g t0 t1 t2 t3 b v o b2 P T K X Y C F z SO LE RO hi) ss.heap.size) ss.heap H locs → W pp l ee ({ frames := 3, cells := 0, slots := 0, locals := 74 } : Room) ss mm ([.ref (d 0), .int p1, .int p2] : List Value).toArray bl me co H locs 0 0 (MQ bl (cQl D k (wMain k d a a2 a3 h c g t0 t1 t2 t3 b v o b2 P T K X Y C F z SO LE RO hi) ss.heap.size r (wMain k d a a2 a3 h c g t0 t1 t2 t3 b v o b2 P T K X Y C F z SO LE RO hi)) ([.ref (d 0), .int p1, .int p2] : List Value).toArray ss 0 0 (va_A (wMain k d a a2 a3 h c g t0 t1 t2 t3 b v o b2 P T K X Y C F z SO LE RO hi) ss.heap.size)) (F0 mm 0 ls []) := by
    intro H locs _ _ hP hS
    refine lv_aload_n hx hb dX7_deadList_0 rfl (lv_at hl 0 rfl) ?_
    refine va_get (D := D) (ci := 7) (v := .ref v) (C := RX7) (T := TX7) (N := 9) hx hb hts iX7 hown hK hP 0 rfl rfl 4 (by decide) w1 (fun _ h9 => h9) rfl dX7_deadList_1 ?_
    refine lv_iload_n hx hb dX7_deadList_4 rfl (lv_at hl 1 rfl) ?_
    refine lv_iload_n hx hb dX7_deadList_5 rfl (lv_at hl 2 rfl) ?_
    obtain ⟨v1001, h1002, he⟩ := bn1_i he
    refine cVlr (As := [.int p1, .int p2]) (rest := []) ⟨hx, hb, hml, hown, hts⟩ hK hA hP hD hS (mX6_sizeOfDeadList l D k v h a (P := P) (X := X) h1002) (cwV 2 hts gX7_deadList_X6_sizeOfDeadList rfl rfl rfl kX6_sizeOfDeadList ⟨Nat.le_of_ble_eq_true rfl, Nat.le_of_ble_eq_true rfl⟩) [33, 34, 35, 2, 3, 4, 5, 6, 7, 8, 9, 10, 11] rfl rfl 0 rfl rfl rfl hl.1 rfl (Nat.le_of_ble_eq_true rfl) ⟨Nat.le_refl 0, Nat.le_refl 0⟩ dX7_deadList_6 (fun H locs hP hD hS => ?_)
    obtain rfl := some1 he
    exact cRl hx hb hr hlk hK hP hD hS dX7_deadList_9
  exact key ss.heap [] rfl rfl hP hS
theorem kX7_space : yX7_space.cls = RX7 ∧ yX7_space.cls ≠ "java/lang/invoke/MethodHandle" ∧ yX7_space.cls ≠ "java/lang/invoke/VarHandle" ∧ (parseMethodDescriptor yX7_space.desc).map (fun d => d.parameters.length) = some 1 := by decide +kernel
set_option maxRecDepth 100000 in
set_option maxHeartbeats 4000000 in
theorem mX7_space (l : Launch) (D : va_G) (k : Nat → ClassId) (d : Nat → Nat) (a : Nat → Nat) (a2 : Nat → Nat) (a3 : Nat → Nat) (h : Nat → Nat) (c : Nat → Nat) (g : Nat → Nat) (t0 : Nat → Nat) (t1 : Nat → Nat) (t2 : Nat → Nat) (t3 : Nat → Nat) (b : Nat) (v : Nat) (o : Nat) (b2 : Nat) {P : Nat → Nat → Int32} {T : Nat → Nat → Int32} {K : Nat → Nat → Int32} {X : Nat → Int32} {Y : Nat → Int32} {C : Nat → Int32} {F : Nat → Int64} {z : Int32} {SO : Nat → Int32} {LE : Nat → Int32} {RO : Nat → Nat → Int64} {hi : Int32} {p1 : Int32} {r : Int64}  (he : xX7_space P p1 = some r) : CtL l D k yX7_space wsX7_space ({ frames := 2, cells := 0, slots := 0, locals := 46 } : Room) [.ref (d 0), .int p1] (wMain k d a a2 a3 h c g t0 t1 t2 t3 b v o b2 P T K X Y C F z SO LE RO hi) r (wMain k d a a2 a3 h c g t0 t1 t2 t3 b v o b2 P T K X Y C F z SO LE RO hi) := by
  intro sz9
  refine cSt (lv := [(0, .ref (d 0)), (1, .int p1)]) (own := RX7) (cc := cX7_space) (nL := 2) (ret := (some .long)) (by decide +kernel) rfl rfl (Nat.le_of_ble_eq_true rfl) rfl ?_
  intro pp ee ss mm bl me co hsz hC0 hP hD hS ls hl
  subst hsz
  obtain ⟨hx, hb, hr, hml, hown, hts, hK, hlk⟩ := hC0
  have hA : ∀ q, ss.heap.size ≤ q → va_A (wMain k d a a2 a3 h c g t0 t1 t2 t3 b v o b2 P T K X Y C F z SO LE RO hi) ss.heap.size q := fun q h => Or.inr h
  have iX7 : ∀ w ∈ wsX70, w ∈ wsX7_space := fun _ h => List.mem_cons_of_mem _ (List.mem_append_left _ (List.mem_append_right _ h))
  have w1 := hts (.fieldLink RX7 10 "DeadListPool" "pool" "LDeadListPool$Pool;") (List.mem_of_getElem? (i := 1) rfl)
  have w2 := hts (.constantLong RX7 129 (-4611686018427387904)) (List.mem_of_getElem? (i := 2) rfl)
  have hS0 := hS
  have key : ∀ (H : Heap) (locs : List Loc), H = ss.heap → locs = [] → va_P D vwCl (wMain k d a a2 a3 h c g t0 t1 t2 t3 b v o b2 P T K X Y C F z SO LE RO hi) H → va_S (va_A (wMain k d a a2 a3 h c g t0 t1 t2 t3 b v o b2 P T K X Y C F z SO LE RO hi) ss.heap.size) ss.heap H locs → W pp l ee ({ frames := 2, cells := 0, slots := 0, locals := 46 } : Room) ss mm ([.ref (d 0), .int p1] : List Value).toArray bl me co H locs 0 0 (MQ bl (cQl D k (wMain k d a a2 a3 h c g t0 t1 t2 t3 b v o b2 P T K X Y C F z SO LE RO hi) ss.heap.size r (wMain k d a a2 a3 h c g t0 t1 t2 t3 b v o b2 P T K X Y C F z SO LE RO hi)) ([.ref (d 0), .int p1] : List Value).toArray ss 0 0 (va_A (wMain k d a a2 a3 h c g t0 t1 t2 t3 b v o b2 P T K X Y C F z SO LE RO hi) ss.heap.size)) (F0 mm 0 ls []) := by
    intro H locs _ _ hP hS
    refine lv_aload_n hx hb dX7_space_0 rfl (lv_at hl 0 rfl) ?_
    refine va_get (D := D) (ci := 7) (v := .ref (a 0)) (C := RX7) (T := TX7) (N := 9) hx hb hts iX7 hown hK hP 0 rfl rfl 0 (by decide) w1 (fun _ h9 => h9) rfl dX7_space_1 ?_
    refine lv_iload_n hx hb dX7_space_4 rfl (lv_at hl 1 rfl) ?_
    obtain ⟨v1001, h1002, he⟩ := bn1_i he
    refine cVir (As := [.int p1]) (rest := []) ⟨hx, hb, hml, hown, hts⟩ hK hA hP hD hS (mX4_isHolder l D k a (P := P) h1002) (cwV 1 hts gX7_space_X4_isHolder rfl rfl rfl kX4_isHolder ⟨Nat.le_of_ble_eq_true rfl, Nat.le_of_ble_eq_true rfl⟩) [2, 3, 4, 5, 6, 7, 8, 9, 10, 11] rfl rfl 0 rfl rfl rfl hl.1 rfl (Nat.le_of_ble_eq_true rfl) ⟨Nat.le_refl 0, Nat.le_refl 0⟩ dX7_space_5 (fun H locs hP hD hS => ?_)
    refine lv_if_eq (tgt := 22) hx hb dX7_space_8 (by decide) (fun c1003 => ?_) (fun c1003 => ?_)
    · have he := ifp he c1003
      refine lv_ldc2 hx hb hown w2 dX7_space_22 ?_
      obtain rfl := some1 he
      exact cRl hx hb hr hlk hK hP hD hS dX7_space_25
    · have he := ifn he c1003
      refine lv_aload_n hx hb dX7_space_11 rfl (lv_at hl 0 rfl) ?_
      refine va_get (D := D) (ci := 7) (v := .ref (a 0)) (C := RX7) (T := TX7) (N := 9) hx hb hts iX7 hown hK hP 0 rfl rfl 0 (by decide) w1 (fun _ h9 => h9) rfl dX7_space_12 ?_
      refine lv_iload_n hx hb dX7_space_15 rfl (lv_at hl 1 rfl) ?_
      obtain ⟨v1004, h1005, he⟩ := bn1_i he
      refine cVlr (As := [.int p1]) (rest := []) ⟨hx, hb, hml, hown, hts⟩ hK hA hP hD hS (mX4_spaceOf l D k a (P := P) h1005) (cwV 1 hts gX7_space_X4_spaceOf rfl rfl rfl kX4_spaceOf ⟨Nat.le_of_ble_eq_true rfl, Nat.le_of_ble_eq_true rfl⟩) [2, 3, 4, 5, 6, 7, 8, 9, 10, 11] rfl rfl 0 rfl rfl rfl hl.1 rfl (Nat.le_of_ble_eq_true rfl) ⟨Nat.le_refl 0, Nat.le_refl 0⟩ dX7_space_16 (fun H locs hP hD hS => ?_)
      refine lv_goto (tgt := 25) hx hb dX7_space_19 (by decide) ?_
      obtain rfl := some1 he
      exact cRl hx hb hr hlk hK hP hD hS dX7_space_25
  exact key ss.heap [] rfl rfl hP hS
theorem kX7_alone : yX7_alone.cls = RX7 ∧ yX7_alone.cls ≠ "java/lang/invoke/MethodHandle" ∧ yX7_alone.cls ≠ "java/lang/invoke/VarHandle" ∧ (parseMethodDescriptor yX7_alone.desc).map (fun d => d.parameters.length) = some 1 := by decide +kernel
set_option maxRecDepth 100000 in
set_option maxHeartbeats 4000000 in
theorem mX7_alone (l : Launch) (D : va_G) (k : Nat → ClassId) (d : Nat → Nat) (a : Nat → Nat) (a2 : Nat → Nat) (a3 : Nat → Nat) (h : Nat → Nat) (c : Nat → Nat) (g : Nat → Nat) (t0 : Nat → Nat) (t1 : Nat → Nat) (t2 : Nat → Nat) (t3 : Nat → Nat) (b : Nat) (v : Nat) (o : Nat) (b2 : Nat) {P : Nat → Nat → Int32} {T : Nat → Nat → Int32} {K : Nat → Nat → Int32} {X_0 : Nat → Int32} {Y : Nat → Int32} {C : Nat → Int32} {F : Nat → Int64} {z : Int32} {SO : Nat → Int32} {LE : Nat → Int32} {RO : Nat → Nat → Int64} {hi : Int32} {p1 : Int32} {r : Int64} {X' : Nat → Int32} (he : xX7_alone P X_0 p1 = some (r, X')) : CtL l D k yX7_alone wsX7_alone ({ frames := 3, cells := 0, slots := 0, locals := 69 } : Room) [.ref (d 0), .int p1] (wMain k d a a2 a3 h c g t0 t1 t2 t3 b v o b2 P T K X_0 Y C F z SO LE RO hi) r (wMain k d a a2 a3 h c g t0 t1 t2 t3 b v o b2 P T K X' Y C F z SO LE RO hi) := by
  intro sz9
  refine cSt (lv := [(0, .ref (d 0)), (1, .int p1)]) (own := RX7) (cc := cX7_alone) (nL := 2) (ret := (some .long)) (by decide +kernel) rfl rfl (Nat.le_of_ble_eq_true rfl) rfl ?_
  intro pp ee ss mm bl me co hsz hC0 hP hD hS ls hl
  subst hsz
  obtain ⟨hx, hb, hr, hml, hown, hts, hK, hlk⟩ := hC0
  have hA : ∀ q, ss.heap.size ≤ q → va_A (wMain k d a a2 a3 h c g t0 t1 t2 t3 b v o b2 P T K X_0 Y C F z SO LE RO hi) ss.heap.size q := fun q h => Or.inr h
  have iX7 : ∀ w ∈ wsX70, w ∈ wsX7_alone := fun _ h => List.mem_cons_of_mem _ (List.mem_append_left _ (List.mem_append_left _ (List.mem_append_left _ (List.mem_append_right _ h))))
  have w1 := hts (.fieldLink RX7 10 "DeadListPool" "pool" "LDeadListPool$Pool;") (List.mem_of_getElem? (i := 1) rfl)
  have w3 := hts (.constantLong RX7 129 (-4611686018427387904)) (List.mem_of_getElem? (i := 3) rfl)
  have w2 := hts (.fieldLink RX7 34 "DeadListPool" "survey" "LDeadListPool$Survey;") (List.mem_of_getElem? (i := 2) rfl)
  have hS0 := hS
  have key : ∀ (H : Heap) (locs : List Loc), H = ss.heap → locs = [] → va_P D vwCl (wMain k d a a2 a3 h c g t0 t1 t2 t3 b v o b2 P T K X_0 Y C F z SO LE RO hi) H → va_S (va_A (wMain k d a a2 a3 h c g t0 t1 t2 t3 b v o b2 P T K X_0 Y C F z SO LE RO hi) ss.heap.size) ss.heap H locs → W pp l ee ({ frames := 3, cells := 0, slots := 0, locals := 69 } : Room) ss mm ([.ref (d 0), .int p1] : List Value).toArray bl me co H locs 0 0 (MQ bl (cQl D k (wMain k d a a2 a3 h c g t0 t1 t2 t3 b v o b2 P T K X_0 Y C F z SO LE RO hi) ss.heap.size r (wMain k d a a2 a3 h c g t0 t1 t2 t3 b v o b2 P T K X' Y C F z SO LE RO hi)) ([.ref (d 0), .int p1] : List Value).toArray ss 0 0 (va_A (wMain k d a a2 a3 h c g t0 t1 t2 t3 b v o b2 P T K X_0 Y C F z SO LE RO hi) ss.heap.size)) (F0 mm 0 ls []) := by
    intro H locs _ _ hP hS
    refine lv_aload_n hx hb dX7_alone_0 rfl (lv_at hl 0 rfl) ?_
    refine va_get (D := D) (ci := 7) (v := .ref (a 0)) (C := RX7) (T := TX7) (N := 9) hx hb hts iX7 hown hK hP 0 rfl rfl 0 (by decide) w1 (fun _ h9 => h9) rfl dX7_alone_1 ?_
    refine lv_iload_n hx hb dX7_alone_4 rfl (lv_at hl 1 rfl) ?_
    obtain ⟨v1001, h1002, he⟩ := bn1_i he
    refine cVir (As := [.int p1]) (rest := []) ⟨hx, hb, hml, hown, hts⟩ hK hA hP hD hS (mX4_isHolder l D k a (P := P) h1002) (cwV 1 hts gX7_alone_X4_isHolder rfl rfl rfl kX4_isHolder ⟨Nat.le_of_ble_eq_true rfl, Nat.le_of_ble_eq_true rfl⟩) [2, 3, 4, 5, 6, 7, 8, 9, 10, 11] rfl rfl 0 rfl rfl rfl hl.1 rfl (Nat.le_of_ble_eq_true rfl) ⟨Nat.le_refl 0, Nat.le_refl 0⟩ dX7_alone_5 (fun H locs hP hD hS => ?_)
    refine lv_if_eq (tgt := 24) hx hb dX7_alone_8 (by decide) (fun c1003 => ?_) (fun c1003 => ?_)
    · have he := ifp he c1003
      refine lv_ldc2 hx hb hown w3 dX7_alone_24 ?_
      obtain ⟨rfl, rfl⟩ := some2 he
      exact cRl hx hb hr hlk hK hP hD hS dX7_alone_27
    · have he := ifn he c1003
      refine lv_aload_n hx hb dX7_alone_11 rfl (lv_at hl 0 rfl) ?_
      refine va_get (D := D) (ci := 7) (v := .ref v) (C := RX7) (T := TX7) (N := 9) hx hb hts iX7 hown hK hP 0 rfl rfl 4 (by decide) w2 (fun _ h9 => h9) rfl dX7_alone_12 ?_
      refine lv_iconst (v := 1) hx hb dX7_alone_15 (by decide) ?_
      refine lv_iload_n hx hb dX7_alone_16 rfl (lv_at hl 1 rfl) ?_
      refine lv_ishl hx hb dX7_alone_17 ?_
      obtain ⟨v1004, X1005, h1006, he⟩ := bn2_i he
      refine cVl (wf := (wMain k d a a2 a3 h c g t0 t1 t2 t3 b v o b2 P T K X1005 Y C F z SO LE RO hi)) (As := [.int (1 <<< (p1 &&& 31))]) (rest := []) ⟨hx, hb, hml, hown, hts⟩ hK hA hP hD hS (mX6_sizeHeldOnlyBy l D k v h a (P := P) (X_0 := X_0) h1006) (cwV 1 hts gX7_alone_X6_sizeHeldOnlyBy rfl rfl rfl kX6_sizeHeldOnlyBy ⟨Nat.le_of_ble_eq_true rfl, Nat.le_of_ble_eq_true rfl⟩) [33, 34, 35, 2, 3, 4, 5, 6, 7, 8, 9, 10, 11] rfl rfl rfl [true, true, false, false, false, false, false, false, false, false, false, false, true, true, true, true, true, true, true, true, true, true, true, true, true, true, true, true, true, true, true, true, true, false, false, false, true, true, true, true, true, true, true, true, true, true, true, true, true, true, true] ⟨rfl, rfl, rfl, rfl, rfl, rfl, rfl, rfl, rfl, rfl, rfl, rfl, rfl, rfl, rfl, rfl, rfl, rfl, rfl, rfl, rfl, rfl, rfl, rfl, rfl, rfl, rfl, rfl, rfl, rfl, rfl, rfl, rfl, rfl, rfl, rfl, rfl, rfl, trivial⟩ 51 rfl (by decide +kernel) rfl 0 rfl rfl rfl hl.1 rfl (Nat.le_of_ble_eq_true rfl) ⟨Nat.le_refl 0, Nat.le_refl 0⟩ dX7_alone_18 (fun H locs hP hD hS => ?_)
      refine lv_goto (tgt := 27) hx hb dX7_alone_21 (by decide) ?_
      obtain ⟨rfl, rfl⟩ := some2 he
      exact cRl hx hb hr hlk hK hP hD hS dX7_alone_27
  exact key ss.heap [] rfl rfl hP hS
theorem kX7_range : yX7_range.cls = RX7 ∧ yX7_range.cls ≠ "java/lang/invoke/MethodHandle" ∧ yX7_range.cls ≠ "java/lang/invoke/VarHandle" ∧ (parseMethodDescriptor yX7_range.desc).map (fun d => d.parameters.length) = some 2 := by decide +kernel
set_option maxRecDepth 100000 in
set_option maxHeartbeats 4000000 in
theorem mX7_range (l : Launch) (D : va_G) (k : Nat → ClassId) (d : Nat → Nat) (a : Nat → Nat) (a2 : Nat → Nat) (a3 : Nat → Nat) (h : Nat → Nat) (c : Nat → Nat) (g : Nat → Nat) (t0 : Nat → Nat) (t1 : Nat → Nat) (t2 : Nat → Nat) (t3 : Nat → Nat) (b : Nat) (v : Nat) (o : Nat) (b2 : Nat) {P : Nat → Nat → Int32} {T : Nat → Nat → Int32} {K : Nat → Nat → Int32} {X_0 : Nat → Int32} {Y : Nat → Int32} {C : Nat → Int32} {F : Nat → Int64} {z : Int32} {SO : Nat → Int32} {LE : Nat → Int32} {RO : Nat → Nat → Int64} {hi : Int32} {p1 : Int32} {p2 : Int32} {r : Int64} {X' : Nat → Int32} (he : xX7_range P X_0 p1 p2 = some (r, X')) : CtL l D k yX7_range wsX7_range ({ frames := 4, cells := 0, slots := 0, locals := 94 } : Room) [.ref (d 0), .int p1, .int p2] (wMain k d a a2 a3 h c g t0 t1 t2 t3 b v o b2 P T K X_0 Y C F z SO LE RO hi) r (wMain k d a a2 a3 h c g t0 t1 t2 t3 b v o b2 P T K X' Y C F z SO LE RO hi) := by
  intro sz9
  refine cSt (lv := [(0, .ref (d 0)), (1, .int p1), (2, .int p2)]) (own := RX7) (cc := cX7_range) (nL := 3) (ret := (some .long)) (by decide +kernel) rfl rfl (Nat.le_of_ble_eq_true rfl) rfl ?_
  intro pp ee ss mm bl me co hsz hC0 hP hD hS ls hl
  subst hsz
  obtain ⟨hx, hb, hr, hml, hown, hts, hK, hlk⟩ := hC0
  have hA : ∀ q, ss.heap.size ≤ q → va_A (wMain k d a a2 a3 h c g t0 t1 t2 t3 b v o b2 P T K X_0 Y C F z SO LE RO hi) ss.heap.size q := fun q h => Or.inr h
  have iX7 : ∀ w ∈ wsX70, w ∈ wsX7_range := fun _ h => List.mem_cons_of_mem _ (List.mem_append_left _ (List.mem_append_left _ (List.mem_append_left _ (List.mem_append_right _ h))))
  have w1 := hts (.fieldLink RX7 34 "DeadListPool" "survey" "LDeadListPool$Survey;") (List.mem_of_getElem? (i := 1) rfl)
  have hS0 := hS
  have key : ∀ (H : Heap) (locs : List Loc), H = ss.heap → locs = [] → va_P D vwCl (wMain k d a a2 a3 h c g t0 t1 t2 t3 b v o b2 P T K X_0 Y C F z SO LE RO hi) H → va_S (va_A (wMain k d a a2 a3 h c g t0 t1 t2 t3 b v o b2 P T K X_0 Y C F z SO LE RO hi) ss.heap.size) ss.heap H locs → W pp l ee ({ frames := 4, cells := 0, slots := 0, locals := 94 } : Room) ss mm ([.ref (d 0), .int p1, .int p2] : List Value).toArray bl me co H locs 0 0 (MQ bl (cQl D k (wMain k d a a2 a3 h c g t0 t1 t2 t3 b v o b2 P T K X_0 Y C F z SO LE RO hi) ss.heap.size r (wMain k d a a2 a3 h c g t0 t1 t2 t3 b v o b2 P T K X' Y C F z SO LE RO hi)) ([.ref (d 0), .int p1, .int p2] : List Value).toArray ss 0 0 (va_A (wMain k d a a2 a3 h c g t0 t1 t2 t3 b v o b2 P T K X_0 Y C F z SO LE RO hi) ss.heap.size)) (F0 mm 0 ls []) := by
    intro H locs _ _ hP hS
    refine lv_aload_n hx hb dX7_range_0 rfl (lv_at hl 0 rfl) ?_
    refine va_get (D := D) (ci := 7) (v := .ref v) (C := RX7) (T := TX7) (N := 9) hx hb hts iX7 hown hK hP 0 rfl rfl 4 (by decide) w1 (fun _ h9 => h9) rfl dX7_range_1 ?_
    refine lv_iload_n hx hb dX7_range_4 rfl (lv_at hl 1 rfl) ?_
    refine lv_iload_n hx hb dX7_range_5 rfl (lv_at hl 2 rfl) ?_
    obtain ⟨v1001, X1002, h1003, he⟩ := bn2_i he
    refine cVl (wf := (wMain k d a a2 a3 h c g t0 t1 t2 t3 b v o b2 P T K X1002 Y C F z SO LE RO hi)) (As := [.int p1, .int p2]) (rest := []) ⟨hx, hb, hml, hown, hts⟩ hK hA hP hD hS (mX6_sizeOfRange l D k v h a (P := P) (X_0 := X_0) h1003) (cwV 2 hts gX7_range_X6_sizeOfRange rfl rfl rfl kX6_sizeOfRange ⟨Nat.le_of_ble_eq_true rfl, Nat.le_of_ble_eq_true rfl⟩) [33, 34, 35, 2, 3, 4, 5, 6, 7, 8, 9, 10, 11] rfl rfl rfl [true, true, false, false, false, false, false, false, false, false, false, false, true, true, true, true, true, true, true, true, true, true, true, true, true, true, true, true, true, true, true, true, true, false, false, false, true, true, true, true, true, true, true, true, true, true, true, true, true, true, true] ⟨rfl, rfl, rfl, rfl, rfl, rfl, rfl, rfl, rfl, rfl, rfl, rfl, rfl, rfl, rfl, rfl, rfl, rfl, rfl, rfl, rfl, rfl, rfl, rfl, rfl, rfl, rfl, rfl, rfl, rfl, rfl, rfl, rfl, rfl, rfl, rfl, rfl, rfl, trivial⟩ 51 rfl (by decide +kernel) rfl 0 rfl rfl rfl hl.1 rfl (Nat.le_of_ble_eq_true rfl) ⟨Nat.le_refl 0, Nat.le_refl 0⟩ dX7_range_6 (fun H locs hP hD hS => ?_)
    obtain ⟨rfl, rfl⟩ := some2 he
    exact cRl hx hb hr hlk hK hP hD hS dX7_range_9
  exact key ss.heap [] rfl rfl hP hS
theorem kX7_since : yX7_since.cls = RX7 ∧ yX7_since.cls ≠ "java/lang/invoke/MethodHandle" ∧ yX7_since.cls ≠ "java/lang/invoke/VarHandle" ∧ (parseMethodDescriptor yX7_since.desc).map (fun d => d.parameters.length) = some 2 := by decide +kernel
set_option maxRecDepth 100000 in
set_option maxHeartbeats 4000000 in
theorem mX7_since (l : Launch) (D : va_G) (k : Nat → ClassId) (d : Nat → Nat) (a : Nat → Nat) (a2 : Nat → Nat) (a3 : Nat → Nat) (h : Nat → Nat) (c : Nat → Nat) (g : Nat → Nat) (t0 : Nat → Nat) (t1 : Nat → Nat) (t2 : Nat → Nat) (t3 : Nat → Nat) (b : Nat) (v : Nat) (o : Nat) (b2 : Nat) {P : Nat → Nat → Int32} {T : Nat → Nat → Int32} {K : Nat → Nat → Int32} {X : Nat → Int32} {Y : Nat → Int32} {C : Nat → Int32} {F : Nat → Int64} {z : Int32} {SO : Nat → Int32} {LE : Nat → Int32} {RO : Nat → Nat → Int64} {hi : Int32} {p1 : Int32} {p2 : Int32} {r : Int64}  (he : xX7_since P p1 p2 = some r) : CtL l D k yX7_since wsX7_since ({ frames := 3, cells := 0, slots := 0, locals := 69 } : Room) [.ref (d 0), .int p1, .int p2] (wMain k d a a2 a3 h c g t0 t1 t2 t3 b v o b2 P T K X Y C F z SO LE RO hi) r (wMain k d a a2 a3 h c g t0 t1 t2 t3 b v o b2 P T K X Y C F z SO LE RO hi) := by
  intro sz9
  refine cSt (lv := [(0, .ref (d 0)), (1, .int p1), (2, .int p2)]) (own := RX7) (cc := cX7_since) (nL := 3) (ret := (some .long)) (by decide +kernel) rfl rfl (Nat.le_of_ble_eq_true rfl) rfl ?_
  intro pp ee ss mm bl me co hsz hC0 hP hD hS ls hl
  subst hsz
  obtain ⟨hx, hb, hr, hml, hown, hts, hK, hlk⟩ := hC0
  have hA : ∀ q, ss.heap.size ≤ q → va_A (wMain k d a a2 a3 h c g t0 t1 t2 t3 b v o b2 P T K X Y C F z SO LE RO hi) ss.heap.size q := fun q h => Or.inr h
  have iX7 : ∀ w ∈ wsX70, w ∈ wsX7_since := fun _ h => List.mem_cons_of_mem _ (List.mem_append_left _ (List.mem_append_left _ (List.mem_append_right _ h)))
  have w1 := hts (.fieldLink RX7 34 "DeadListPool" "survey" "LDeadListPool$Survey;") (List.mem_of_getElem? (i := 1) rfl)
  have hS0 := hS
  have key : ∀ (H : Heap) (locs : List Loc), H = ss.heap → locs = [] → va_P D vwCl (wMain k d a a2 a3 h c g t0 t1 t2 t3 b v o b2 P T K X Y C F z SO LE RO hi) H → va_S (va_A (wMain k d a a2 a3 h c g t0 t1 t2 t3 b v o b2 P T K X Y C F z SO LE RO hi) ss.heap.size) ss.heap H locs → W pp l ee ({ frames := 3, cells := 0, slots := 0, locals := 69 } : Room) ss mm ([.ref (d 0), .int p1, .int p2] : List Value).toArray bl me co H locs 0 0 (MQ bl (cQl D k (wMain k d a a2 a3 h c g t0 t1 t2 t3 b v o b2 P T K X Y C F z SO LE RO hi) ss.heap.size r (wMain k d a a2 a3 h c g t0 t1 t2 t3 b v o b2 P T K X Y C F z SO LE RO hi)) ([.ref (d 0), .int p1, .int p2] : List Value).toArray ss 0 0 (va_A (wMain k d a a2 a3 h c g t0 t1 t2 t3 b v o b2 P T K X Y C F z SO LE RO hi) ss.heap.size)) (F0 mm 0 ls []) := by
    intro H locs _ _ hP hS
    refine lv_aload_n hx hb dX7_since_0 rfl (lv_at hl 0 rfl) ?_
    refine va_get (D := D) (ci := 7) (v := .ref v) (C := RX7) (T := TX7) (N := 9) hx hb hts iX7 hown hK hP 0 rfl rfl 4 (by decide) w1 (fun _ h9 => h9) rfl dX7_since_1 ?_
    refine lv_iload_n hx hb dX7_since_4 rfl (lv_at hl 1 rfl) ?_
    refine lv_iload_n hx hb dX7_since_5 rfl (lv_at hl 2 rfl) ?_
    obtain ⟨v1001, h1002, he⟩ := bn1_i he
    refine cVlr (As := [.int p1, .int p2]) (rest := []) ⟨hx, hb, hml, hown, hts⟩ hK hA hP hD hS (mX6_sizeSince l D k v h a (P := P) (X := X) h1002) (cwV 2 hts gX7_since_X6_sizeSince rfl rfl rfl kX6_sizeSince ⟨Nat.le_of_ble_eq_true rfl, Nat.le_of_ble_eq_true rfl⟩) [33, 34, 35, 2, 3, 4, 5, 6, 7, 8, 9, 10, 11] rfl rfl 0 rfl rfl rfl hl.1 rfl (Nat.le_of_ble_eq_true rfl) ⟨Nat.le_refl 0, Nat.le_refl 0⟩ dX7_since_6 (fun H locs hP hD hS => ?_)
    obtain rfl := some1 he
    exact cRl hx hb hr hlk hK hP hD hS dX7_since_9
  exact key ss.heap [] rfl rfl hP hS
theorem kX7_common : yX7_common.cls = RX7 ∧ yX7_common.cls ≠ "java/lang/invoke/MethodHandle" ∧ yX7_common.cls ≠ "java/lang/invoke/VarHandle" ∧ (parseMethodDescriptor yX7_common.desc).map (fun d => d.parameters.length) = some 2 := by decide +kernel
set_option maxRecDepth 100000 in
set_option maxHeartbeats 4000000 in
theorem mX7_common (l : Launch) (D : va_G) (k : Nat → ClassId) (d : Nat → Nat) (a : Nat → Nat) (a2 : Nat → Nat) (a3 : Nat → Nat) (h : Nat → Nat) (c : Nat → Nat) (g : Nat → Nat) (t0 : Nat → Nat) (t1 : Nat → Nat) (t2 : Nat → Nat) (t3 : Nat → Nat) (b : Nat) (v : Nat) (o : Nat) (b2 : Nat) {P : Nat → Nat → Int32} {T : Nat → Nat → Int32} {K : Nat → Nat → Int32} {X : Nat → Int32} {Y : Nat → Int32} {C : Nat → Int32} {F : Nat → Int64} {z : Int32} {SO : Nat → Int32} {LE : Nat → Int32} {RO : Nat → Nat → Int64} {hi : Int32} {p1 : Int32} {p2 : Int32} {r : Int64}  (he : xX7_common P p1 p2 = some r) : CtL l D k yX7_common wsX7_common ({ frames := 3, cells := 0, slots := 0, locals := 69 } : Room) [.ref (d 0), .int p1, .int p2] (wMain k d a a2 a3 h c g t0 t1 t2 t3 b v o b2 P T K X Y C F z SO LE RO hi) r (wMain k d a a2 a3 h c g t0 t1 t2 t3 b v o b2 P T K X Y C F z SO LE RO hi) := by
  intro sz9
  refine cSt (lv := [(0, .ref (d 0)), (1, .int p1), (2, .int p2)]) (own := RX7) (cc := cX7_common) (nL := 3) (ret := (some .long)) (by decide +kernel) rfl rfl (Nat.le_of_ble_eq_true rfl) rfl ?_
  intro pp ee ss mm bl me co hsz hC0 hP hD hS ls hl
  subst hsz
  obtain ⟨hx, hb, hr, hml, hown, hts, hK, hlk⟩ := hC0
  have hA : ∀ q, ss.heap.size ≤ q → va_A (wMain k d a a2 a3 h c g t0 t1 t2 t3 b v o b2 P T K X Y C F z SO LE RO hi) ss.heap.size q := fun q h => Or.inr h
  have iX7 : ∀ w ∈ wsX70, w ∈ wsX7_common := fun _ h => List.mem_cons_of_mem _ (List.mem_append_left _ (List.mem_append_left _ (List.mem_append_right _ h)))
  have w1 := hts (.fieldLink RX7 34 "DeadListPool" "survey" "LDeadListPool$Survey;") (List.mem_of_getElem? (i := 1) rfl)
  have hS0 := hS
  have key : ∀ (H : Heap) (locs : List Loc), H = ss.heap → locs = [] → va_P D vwCl (wMain k d a a2 a3 h c g t0 t1 t2 t3 b v o b2 P T K X Y C F z SO LE RO hi) H → va_S (va_A (wMain k d a a2 a3 h c g t0 t1 t2 t3 b v o b2 P T K X Y C F z SO LE RO hi) ss.heap.size) ss.heap H locs → W pp l ee ({ frames := 3, cells := 0, slots := 0, locals := 69 } : Room) ss mm ([.ref (d 0), .int p1, .int p2] : List Value).toArray bl me co H locs 0 0 (MQ bl (cQl D k (wMain k d a a2 a3 h c g t0 t1 t2 t3 b v o b2 P T K X Y C F z SO LE RO hi) ss.heap.size r (wMain k d a a2 a3 h c g t0 t1 t2 t3 b v o b2 P T K X Y C F z SO LE RO hi)) ([.ref (d 0), .int p1, .int p2] : List Value).toArray ss 0 0 (va_A (wMain k d a a2 a3 h c g t0 t1 t2 t3 b v o b2 P T K X Y C F z SO LE RO hi) ss.heap.size)) (F0 mm 0 ls []) := by
    intro H locs _ _ hP hS
    refine lv_aload_n hx hb dX7_common_0 rfl (lv_at hl 0 rfl) ?_
    refine va_get (D := D) (ci := 7) (v := .ref v) (C := RX7) (T := TX7) (N := 9) hx hb hts iX7 hown hK hP 0 rfl rfl 4 (by decide) w1 (fun _ h9 => h9) rfl dX7_common_1 ?_
    refine lv_iload_n hx hb dX7_common_4 rfl (lv_at hl 1 rfl) ?_
    refine lv_iload_n hx hb dX7_common_5 rfl (lv_at hl 2 rfl) ?_
    obtain ⟨v1001, h1002, he⟩ := bn1_i he
    refine cVlr (As := [.int p1, .int p2]) (rest := []) ⟨hx, hb, hml, hown, hts⟩ hK hA hP hD hS (mX6_sizeInBoth l D k v h a (P := P) (X := X) h1002) (cwV 2 hts gX7_common_X6_sizeInBoth rfl rfl rfl kX6_sizeInBoth ⟨Nat.le_of_ble_eq_true rfl, Nat.le_of_ble_eq_true rfl⟩) [33, 34, 35, 2, 3, 4, 5, 6, 7, 8, 9, 10, 11] rfl rfl 0 rfl rfl rfl hl.1 rfl (Nat.le_of_ble_eq_true rfl) ⟨Nat.le_refl 0, Nat.le_refl 0⟩ dX7_common_6 (fun H locs hP hD hS => ?_)
    obtain rfl := some1 he
    exact cRl hx hb hr hlk hK hP hD hS dX7_common_9
  exact key ss.heap [] rfl rfl hP hS
theorem kX7_most : yX7_most.cls = RX7 ∧ yX7_most.cls ≠ "java/lang/invoke/MethodHandle" ∧ yX7_most.cls ≠ "java/lang/invoke/VarHandle" ∧ (parseMethodDescriptor yX7_most.desc).map (fun d => d.parameters.length) = some 2 := by decide +kernel
set_option maxRecDepth 100000 in
set_option maxHeartbeats 4000000 in
theorem mX7_most (l : Launch) (D : va_G) (k : Nat → ClassId) (d : Nat → Nat) (a : Nat → Nat) (a2 : Nat → Nat) (a3 : Nat → Nat) (h : Nat → Nat) (c : Nat → Nat) (g : Nat → Nat) (t0 : Nat → Nat) (t1 : Nat → Nat) (t2 : Nat → Nat) (t3 : Nat → Nat) (b : Nat) (v : Nat) (o : Nat) (b2 : Nat) {P : Nat → Nat → Int32} {T : Nat → Nat → Int32} {K : Nat → Nat → Int32} {X : Nat → Int32} {Y_0 : Nat → Int32} {C_0 : Nat → Int32} {F_0 : Nat → Int64} {z : Int32} {SO : Nat → Int32} {LE : Nat → Int32} {RO : Nat → Nat → Int64} {hi : Int32} {p1 : Int32} {p2 : Int32} {r : Int64} {Y' : Nat → Int32} {C' : Nat → Int32} {F' : Nat → Int64} (he : xX7_most P Y_0 C_0 F_0 p1 p2 = some (r, Y', C', F')) : CtL l D k yX7_most wsX7_most ({ frames := 6, cells := 0, slots := 0, locals := 138 } : Room) [.ref (d 0), .int p1, .int p2] (wMain k d a a2 a3 h c g t0 t1 t2 t3 b v o b2 P T K X Y_0 C_0 F_0 z SO LE RO hi) r (wMain k d a a2 a3 h c g t0 t1 t2 t3 b v o b2 P T K X Y' C' F' z SO LE RO hi) := by
  intro sz9
  refine cSt (lv := [(0, .ref (d 0)), (1, .int p1), (2, .int p2)]) (own := RX7) (cc := cX7_most) (nL := 3) (ret := (some .long)) (by decide +kernel) rfl rfl (Nat.le_of_ble_eq_true rfl) rfl ?_
  intro pp ee ss mm bl me co hsz hC0 hP hD hS ls hl
  subst hsz
  obtain ⟨hx, hb, hr, hml, hown, hts, hK, hlk⟩ := hC0
  have hA : ∀ q, ss.heap.size ≤ q → va_A (wMain k d a a2 a3 h c g t0 t1 t2 t3 b v o b2 P T K X Y_0 C_0 F_0 z SO LE RO hi) ss.heap.size q := fun q h => Or.inr h
  have w2 := hts (.constantLong RX7 129 (-4611686018427387904)) (List.mem_of_getElem? (i := 2) rfl)
  have iX7 : ∀ w ∈ wsX70, w ∈ wsX7_most := fun _ h => List.mem_cons_of_mem _ (List.mem_append_left _ (List.mem_append_left _ (List.mem_append_left _ (List.mem_append_right _ h))))
  have w1 := hts (.fieldLink RX7 10 "DeadListPool" "pool" "LDeadListPool$Pool;") (List.mem_of_getElem? (i := 1) rfl)
  have w3 := hts (.fieldLink RX7 41 "DeadListPool" "choice" "LDeadListPool$Choice;") (List.mem_of_getElem? (i := 3) rfl)
  have hS0 := hS
  have key : ∀ (H : Heap) (locs : List Loc), H = ss.heap → locs = [] → va_P D vwCl (wMain k d a a2 a3 h c g t0 t1 t2 t3 b v o b2 P T K X Y_0 C_0 F_0 z SO LE RO hi) H → va_S (va_A (wMain k d a a2 a3 h c g t0 t1 t2 t3 b v o b2 P T K X Y_0 C_0 F_0 z SO LE RO hi) ss.heap.size) ss.heap H locs → W pp l ee ({ frames := 6, cells := 0, slots := 0, locals := 138 } : Room) ss mm ([.ref (d 0), .int p1, .int p2] : List Value).toArray bl me co H locs 0 0 (MQ bl (cQl D k (wMain k d a a2 a3 h c g t0 t1 t2 t3 b v o b2 P T K X Y_0 C_0 F_0 z SO LE RO hi) ss.heap.size r (wMain k d a a2 a3 h c g t0 t1 t2 t3 b v o b2 P T K X Y' C' F' z SO LE RO hi)) ([.ref (d 0), .int p1, .int p2] : List Value).toArray ss 0 0 (va_A (wMain k d a a2 a3 h c g t0 t1 t2 t3 b v o b2 P T K X Y_0 C_0 F_0 z SO LE RO hi) ss.heap.size)) (F0 mm 0 ls []) := by
    intro H locs _ _ hP hS
    refine lv_iload_n hx hb dX7_most_0 rfl (lv_at hl 2 rfl) ?_
    refine lv_if_lt (tgt := 21) hx hb dX7_most_1 (by decide) (fun c1001 => ?_) (fun c1001 => ?_)
    · have he := ifp he c1001
      refine lv_ldc2 hx hb hown w2 dX7_most_21 ?_
      obtain ⟨rfl, rfl, rfl, rfl⟩ := some4 he
      exact cRl hx hb hr hlk hK hP hD hS dX7_most_24
    · have he := ifn he c1001
      refine lv_iload_n hx hb dX7_most_4 rfl (lv_at hl 2 rfl) ?_
      refine lv_bipush (v := 8) hx hb dX7_most_5 (by decide) ?_
      refine lv_icmp_gt (tgt := 21) hx hb dX7_most_7 (by decide) (fun c1002 => ?_) (fun c1002 => ?_)
      · have he := ifp he c1002
        refine lv_ldc2 hx hb hown w2 dX7_most_21 ?_
        obtain ⟨rfl, rfl, rfl, rfl⟩ := some4 he
        exact cRl hx hb hr hlk hK hP hD hS dX7_most_24
      · have he := ifn he c1002
        refine lv_aload_n hx hb dX7_most_10 rfl (lv_at hl 0 rfl) ?_
        refine va_get (D := D) (ci := 7) (v := .ref (a 0)) (C := RX7) (T := TX7) (N := 9) hx hb hts iX7 hown hK hP 0 rfl rfl 0 (by decide) w1 (fun _ h9 => h9) rfl dX7_most_11 ?_
        refine lv_iload_n hx hb dX7_most_14 rfl (lv_at hl 1 rfl) ?_
        obtain ⟨v1003, h1004, he⟩ := bn1_i he
        refine cVir (As := [.int p1]) (rest := []) ⟨hx, hb, hml, hown, hts⟩ hK hA hP hD hS (mX4_isFiles l D k a (P := P) h1004) (cwV 1 hts gX7_most_X4_isFiles rfl rfl rfl kX4_isFiles ⟨Nat.le_of_ble_eq_true rfl, Nat.le_of_ble_eq_true rfl⟩) [2, 3, 4, 5, 6, 7, 8, 9, 10, 11] rfl rfl 0 rfl rfl rfl hl.1 rfl (Nat.le_of_ble_eq_true rfl) ⟨Nat.le_refl 0, Nat.le_refl 0⟩ dX7_most_15 (fun H locs hP hD hS => ?_)
        refine lv_if_ne (tgt := 25) hx hb dX7_most_18 (by decide) (fun c1005 => ?_) (fun c1005 => ?_)
        · have he := ifn he c1005
          refine lv_aload_n hx hb dX7_most_25 rfl (lv_at hl 0 rfl) ?_
          refine va_get (D := D) (ci := 7) (v := .ref (c 0)) (C := RX7) (T := TX7) (N := 9) hx hb hts iX7 hown hK hP 0 rfl rfl 5 (by decide) w3 (fun _ h9 => h9) rfl dX7_most_26 ?_
          refine lv_iload_n hx hb dX7_most_29 rfl (lv_at hl 1 rfl) ?_
          refine lv_iload_n hx hb dX7_most_30 rfl (lv_at hl 2 rfl) ?_
          obtain ⟨v1006, Y1007, C1008, F1009, h1010, he⟩ := bn4_i he
          refine cVl (wf := (wMain k d a a2 a3 h c g t0 t1 t2 t3 b v o b2 P T K X Y1007 C1008 F1009 z SO LE RO hi)) (As := [.int p1, .int p2]) (rest := []) ⟨hx, hb, hml, hown, hts⟩ hK hA hP hD hS (mX1_mostFreed l D k c g a (P := P) (X_0 := Y_0) (C_0 := C_0) (F_0 := F_0) h1010) (cwV 2 hts gX7_most_X1_mostFreed rfl rfl rfl kX1_mostFreed ⟨Nat.le_of_ble_eq_true rfl, Nat.le_of_ble_eq_true rfl⟩) [36, 37, 38, 39, 40, 2, 3, 4, 5, 6, 7, 8, 9, 10, 11] rfl rfl rfl [true, true, false, false, false, false, false, false, false, false, false, false, true, true, true, true, true, true, true, true, true, true, true, true, true, true, true, true, true, true, true, true, true, true, true, true, false, false, false, false, false, true, true, true, true, true, true, true, true, true, true] ⟨rfl, rfl, rfl, rfl, rfl, rfl, rfl, rfl, rfl, rfl, rfl, rfl, rfl, rfl, rfl, rfl, rfl, rfl, rfl, rfl, rfl, rfl, rfl, rfl, rfl, rfl, rfl, rfl, rfl, rfl, rfl, rfl, rfl, rfl, rfl, rfl, trivial⟩ 51 rfl (by decide +kernel) rfl 0 rfl rfl rfl hl.1 rfl (Nat.le_of_ble_eq_true rfl) ⟨Nat.le_refl 0, Nat.le_refl 0⟩ dX7_most_31 (fun H locs hP hD hS => ?_)
          obtain ⟨rfl, rfl, rfl, rfl⟩ := some4 he
          exact cRl hx hb hr hlk hK hP hD hS dX7_most_34
        · have he := ifp he c1005
          refine lv_ldc2 hx hb hown w2 dX7_most_21 ?_
          obtain ⟨rfl, rfl, rfl, rfl⟩ := some4 he
          exact cRl hx hb hr hlk hK hP hD hS dX7_most_24
  exact key ss.heap [] rfl rfl hP hS
theorem kX7_fewest : yX7_fewest.cls = RX7 ∧ yX7_fewest.cls ≠ "java/lang/invoke/MethodHandle" ∧ yX7_fewest.cls ≠ "java/lang/invoke/VarHandle" ∧ (parseMethodDescriptor yX7_fewest.desc).map (fun d => d.parameters.length) = some 2 := by decide +kernel
set_option maxRecDepth 100000 in
set_option maxHeartbeats 4000000 in
theorem mX7_fewest (l : Launch) (D : va_G) (k : Nat → ClassId) (d : Nat → Nat) (a : Nat → Nat) (a2 : Nat → Nat) (a3 : Nat → Nat) (h : Nat → Nat) (c : Nat → Nat) (g : Nat → Nat) (t0 : Nat → Nat) (t1 : Nat → Nat) (t2 : Nat → Nat) (t3 : Nat → Nat) (b : Nat) (v : Nat) (o : Nat) (b2 : Nat) {P : Nat → Nat → Int32} {T : Nat → Nat → Int32} {K : Nat → Nat → Int32} {X : Nat → Int32} {Y_0 : Nat → Int32} {C_0 : Nat → Int32} {F_0 : Nat → Int64} {z : Int32} {SO : Nat → Int32} {LE : Nat → Int32} {RO : Nat → Nat → Int64} {hi : Int32} {p1 : Int32} {p2 : Int64} {r : Int32} {Y' : Nat → Int32} {C' : Nat → Int32} {F' : Nat → Int64} (he : xX7_fewest P Y_0 C_0 F_0 p1 p2 = some (r, Y', C', F')) : CtI l D k yX7_fewest wsX7_fewest ({ frames := 6, cells := 0, slots := 0, locals := 139 } : Room) [.ref (d 0), .int p1, .long p2] (wMain k d a a2 a3 h c g t0 t1 t2 t3 b v o b2 P T K X Y_0 C_0 F_0 z SO LE RO hi) r (wMain k d a a2 a3 h c g t0 t1 t2 t3 b v o b2 P T K X Y' C' F' z SO LE RO hi) := by
  intro sz9
  refine cSt (lv := [(0, .ref (d 0)), (1, .int p1), (2, .long p2)]) (own := RX7) (cc := cX7_fewest) (nL := 5) (ret := (some .int)) (by decide +kernel) rfl rfl (Nat.le_of_ble_eq_true rfl) rfl ?_
  intro pp ee ss mm bl me co hsz hC0 hP hD hS ls hl
  subst hsz
  obtain ⟨hx, hb, hr, hml, hown, hts, hK, hlk⟩ := hC0
  have hA : ∀ q, ss.heap.size ≤ q → va_A (wMain k d a a2 a3 h c g t0 t1 t2 t3 b v o b2 P T K X Y_0 C_0 F_0 z SO LE RO hi) ss.heap.size q := fun q h => Or.inr h
  have iX7 : ∀ w ∈ wsX70, w ∈ wsX7_fewest := fun _ h => List.mem_cons_of_mem _ (List.mem_append_left _ (List.mem_append_left _ (List.mem_append_left _ (List.mem_append_right _ h))))
  have w1 := hts (.fieldLink RX7 10 "DeadListPool" "pool" "LDeadListPool$Pool;") (List.mem_of_getElem? (i := 1) rfl)
  have w2 := hts (.fieldLink RX7 41 "DeadListPool" "choice" "LDeadListPool$Choice;") (List.mem_of_getElem? (i := 2) rfl)
  have hS0 := hS
  have key : ∀ (H : Heap) (locs : List Loc), H = ss.heap → locs = [] → va_P D vwCl (wMain k d a a2 a3 h c g t0 t1 t2 t3 b v o b2 P T K X Y_0 C_0 F_0 z SO LE RO hi) H → va_S (va_A (wMain k d a a2 a3 h c g t0 t1 t2 t3 b v o b2 P T K X Y_0 C_0 F_0 z SO LE RO hi) ss.heap.size) ss.heap H locs → W pp l ee ({ frames := 6, cells := 0, slots := 0, locals := 139 } : Room) ss mm ([.ref (d 0), .int p1, .long p2] : List Value).toArray bl me co H locs 0 0 (MQ bl (cQi D k (wMain k d a a2 a3 h c g t0 t1 t2 t3 b v o b2 P T K X Y_0 C_0 F_0 z SO LE RO hi) ss.heap.size r (wMain k d a a2 a3 h c g t0 t1 t2 t3 b v o b2 P T K X Y' C' F' z SO LE RO hi)) ([.ref (d 0), .int p1, .long p2] : List Value).toArray ss 0 0 (va_A (wMain k d a a2 a3 h c g t0 t1 t2 t3 b v o b2 P T K X Y_0 C_0 F_0 z SO LE RO hi) ss.heap.size)) (F0 mm 0 ls []) := by
    intro H locs _ _ hP hS
    refine lv_aload_n hx hb dX7_fewest_0 rfl (lv_at hl 0 rfl) ?_
    refine va_get (D := D) (ci := 7) (v := .ref (a 0)) (C := RX7) (T := TX7) (N := 9) hx hb hts iX7 hown hK hP 0 rfl rfl 0 (by decide) w1 (fun _ h9 => h9) rfl dX7_fewest_1 ?_
    refine lv_iload_n hx hb dX7_fewest_4 rfl (lv_at hl 1 rfl) ?_
    refine lv_iconst (v := 0) hx hb dX7_fewest_5 (by decide) ?_
    obtain ⟨v1001, h1002, he⟩ := bn1_i he
    refine cVir (As := [.int p1, .int 0]) (rest := []) ⟨hx, hb, hml, hown, hts⟩ hK hA hP hD hS (mX4_refusalAs l D k a (P := P) h1002) (cwV 2 hts gX7_fewest_X4_refusalAs rfl rfl rfl kX4_refusalAs ⟨Nat.le_of_ble_eq_true rfl, Nat.le_of_ble_eq_true rfl⟩) [2, 3, 4, 5, 6, 7, 8, 9, 10, 11] rfl rfl 0 rfl rfl rfl hl.1 rfl (Nat.le_of_ble_eq_true rfl) ⟨Nat.le_refl 0, Nat.le_refl 0⟩ dX7_fewest_6 (fun H locs hP hD hS => ?_)
    refine lv_istore (lv' := [(4, .int v1001), (0, .ref (d 0)), (1, .int p1), (2, .long p2)]) hx hb dX7_fewest_9 hl (by decide) rfl (fun ls hl => ?_)
    refine lv_iload hx hb dX7_fewest_11 (lv_at hl 0 rfl) ?_
    refine lv_if_eq (tgt := 21) hx hb dX7_fewest_13 (by decide) (fun c1003 => ?_) (fun c1003 => ?_)
    · have he := ifp he c1003
      refine lv_aload_n hx hb dX7_fewest_21 rfl (lv_at hl 1 rfl) ?_
      refine va_get (D := D) (ci := 7) (v := .ref (c 0)) (C := RX7) (T := TX7) (N := 9) hx hb hts iX7 hown hK hP 0 rfl rfl 5 (by decide) w2 (fun _ h9 => h9) rfl dX7_fewest_22 ?_
      refine lv_iload_n hx hb dX7_fewest_25 rfl (lv_at hl 2 rfl) ?_
      refine lv_lload_n hx hb dX7_fewest_26 rfl (lv_at hl 3 rfl) ?_
      obtain ⟨v1004, Y1005, C1006, F1007, h1008, he⟩ := bn4_i he
      refine cVi (wf := (wMain k d a a2 a3 h c g t0 t1 t2 t3 b v o b2 P T K X Y1005 C1006 F1007 z SO LE RO hi)) (As := [.int p1, .long p2]) (rest := []) ⟨hx, hb, hml, hown, hts⟩ hK hA hP hD hS (mX1_fewestFor l D k c g a (P := P) (X_0 := Y_0) (C_0 := C_0) (F_0 := F_0) h1008) (cwV 2 hts gX7_fewest_X1_fewestFor rfl rfl rfl kX1_fewestFor ⟨Nat.le_of_ble_eq_true rfl, Nat.le_of_ble_eq_true rfl⟩) [36, 37, 38, 39, 40, 2, 3, 4, 5, 6, 7, 8, 9, 10, 11] rfl rfl rfl [true, true, false, false, false, false, false, false, false, false, false, false, true, true, true, true, true, true, true, true, true, true, true, true, true, true, true, true, true, true, true, true, true, true, true, true, false, false, false, false, false, true, true, true, true, true, true, true, true, true, true] ⟨rfl, rfl, rfl, rfl, rfl, rfl, rfl, rfl, rfl, rfl, rfl, rfl, rfl, rfl, rfl, rfl, rfl, rfl, rfl, rfl, rfl, rfl, rfl, rfl, rfl, rfl, rfl, rfl, rfl, rfl, rfl, rfl, rfl, rfl, rfl, rfl, trivial⟩ 51 rfl (by decide +kernel) rfl 0 rfl rfl rfl hl.1 rfl (Nat.le_of_ble_eq_true rfl) ⟨Nat.le_refl 0, Nat.le_refl 0⟩ dX7_fewest_27 (fun H locs hP hD hS => ?_)
      obtain ⟨rfl, rfl, rfl, rfl⟩ := some4 he
      exact cRi hx hb hr hlk hK rfl hP hD hS dX7_fewest_30
    · have he := ifn he c1003
      refine lv_iload hx hb dX7_fewest_16 (lv_at hl 0 rfl) ?_
      refine lv_goto (tgt := 30) hx hb dX7_fewest_18 (by decide) ?_
      obtain ⟨rfl, rfl, rfl, rfl⟩ := some4 he
      exact cRi hx hb hr hlk hK rfl hP hD hS dX7_fewest_30
  exact key ss.heap [] rfl rfl hP hS
theorem kX7_expire : yX7_expire.cls = RX7 ∧ yX7_expire.cls ≠ "java/lang/invoke/MethodHandle" ∧ yX7_expire.cls ≠ "java/lang/invoke/VarHandle" ∧ (parseMethodDescriptor yX7_expire.desc).map (fun d => d.parameters.length) = some 3 := by decide +kernel
set_option maxRecDepth 100000 in
set_option maxHeartbeats 4000000 in
theorem mX7_expire (l : Launch) (D : va_G) (k : Nat → ClassId) (d : Nat → Nat) (a : Nat → Nat) (a2 : Nat → Nat) (a3 : Nat → Nat) (h : Nat → Nat) (c : Nat → Nat) (g : Nat → Nat) (t0 : Nat → Nat) (t1 : Nat → Nat) (t2 : Nat → Nat) (t3 : Nat → Nat) (b : Nat) (v : Nat) (o : Nat) (b2 : Nat) {P_0 : Nat → Nat → Int32} {T : Nat → Nat → Int32} {K : Nat → Nat → Int32} {X : Nat → Int32} {Y : Nat → Int32} {C : Nat → Int32} {F : Nat → Int64} {z : Int32} {SO : Nat → Int32} {LE : Nat → Int32} {RO : Nat → Nat → Int64} {hi : Int32} {p1 : Int32} {p2 : Int32} {p3 : Int32} {r : Int32} {P' : Nat → Nat → Int32} (he : xX7_expire P_0 p1 p2 p3 = some (r, P')) : CtI l D k yX7_expire wsX7_expire ({ frames := 4, cells := 0, slots := 0, locals := 91 } : Room) [.ref (d 0), .int p1, .int p2, .int p3] (wMain k d a a2 a3 h c g t0 t1 t2 t3 b v o b2 P_0 T K X Y C F z SO LE RO hi) r (wMain k d a a2 a3 h c g t0 t1 t2 t3 b v o b2 P' T K X Y C F z SO LE RO hi) := by
  intro sz9
  refine cSt (lv := [(0, .ref (d 0)), (1, .int p1), (2, .int p2), (3, .int p3)]) (own := RX7) (cc := cX7_expire) (nL := 4) (ret := (some .int)) (by decide +kernel) rfl rfl (Nat.le_of_ble_eq_true rfl) rfl ?_
  intro pp ee ss mm bl me co hsz hC0 hP hD hS ls hl
  subst hsz
  obtain ⟨hx, hb, hr, hml, hown, hts, hK, hlk⟩ := hC0
  have hA : ∀ q, ss.heap.size ≤ q → va_A (wMain k d a a2 a3 h c g t0 t1 t2 t3 b v o b2 P_0 T K X Y C F z SO LE RO hi) ss.heap.size q := fun q h => Or.inr h
  have iX7 : ∀ w ∈ wsX70, w ∈ wsX7_expire := fun _ h => List.mem_cons_of_mem _ (List.mem_append_left _ (List.mem_append_left _ (List.mem_append_right _ h)))
  have w1 := hts (.fieldLink RX7 27 "DeadListPool" "acts" "LDeadListPool$Acts;") (List.mem_of_getElem? (i := 1) rfl)
  have hS0 := hS
  have key : ∀ (H : Heap) (locs : List Loc), H = ss.heap → locs = [] → va_P D vwCl (wMain k d a a2 a3 h c g t0 t1 t2 t3 b v o b2 P_0 T K X Y C F z SO LE RO hi) H → va_S (va_A (wMain k d a a2 a3 h c g t0 t1 t2 t3 b v o b2 P_0 T K X Y C F z SO LE RO hi) ss.heap.size) ss.heap H locs → W pp l ee ({ frames := 4, cells := 0, slots := 0, locals := 91 } : Room) ss mm ([.ref (d 0), .int p1, .int p2, .int p3] : List Value).toArray bl me co H locs 0 0 (MQ bl (cQi D k (wMain k d a a2 a3 h c g t0 t1 t2 t3 b v o b2 P_0 T K X Y C F z SO LE RO hi) ss.heap.size r (wMain k d a a2 a3 h c g t0 t1 t2 t3 b v o b2 P' T K X Y C F z SO LE RO hi)) ([.ref (d 0), .int p1, .int p2, .int p3] : List Value).toArray ss 0 0 (va_A (wMain k d a a2 a3 h c g t0 t1 t2 t3 b v o b2 P_0 T K X Y C F z SO LE RO hi) ss.heap.size)) (F0 mm 0 ls []) := by
    intro H locs _ _ hP hS
    refine lv_aload_n hx hb dX7_expire_0 rfl (lv_at hl 0 rfl) ?_
    refine va_get (D := D) (ci := 7) (v := .ref b) (C := RX7) (T := TX7) (N := 9) hx hb hts iX7 hown hK hP 0 rfl rfl 3 (by decide) w1 (fun _ h9 => h9) rfl dX7_expire_1 ?_
    refine lv_iload_n hx hb dX7_expire_4 rfl (lv_at hl 1 rfl) ?_
    refine lv_iload_n hx hb dX7_expire_5 rfl (lv_at hl 2 rfl) ?_
    refine lv_iload_n hx hb dX7_expire_6 rfl (lv_at hl 3 rfl) ?_
    obtain ⟨v1001, P1002, h1003, he⟩ := bn2_i he
    refine cVi (wf := (wMain k d a a2 a3 h c g t0 t1 t2 t3 b v o b2 P1002 T K X Y C F z SO LE RO hi)) (As := [.int p1, .int p2, .int p3]) (rest := []) ⟨hx, hb, hml, hown, hts⟩ hK hA hP hD hS (mX0_removeExpired l D k b a (P_0 := P_0) h1003) (cwV 3 hts gX7_expire_X0_removeExpired rfl rfl rfl kX0_removeExpired ⟨Nat.le_of_ble_eq_true rfl, Nat.le_of_ble_eq_true rfl⟩) [32, 2, 3, 4, 5, 6, 7, 8, 9, 10, 11] rfl rfl rfl [true, true, false, false, false, false, false, false, false, false, false, false, true, true, true, true, true, true, true, true, true, true, true, true, true, true, true, true, true, true, true, true, false, true, true, true, true, true, true, true, true, true, true, true, true, true, true, true, true, true, true] ⟨rfl, rfl, rfl, rfl, rfl, rfl, rfl, rfl, rfl, rfl, rfl, rfl, rfl, rfl, rfl, rfl, rfl, rfl, rfl, rfl, rfl, rfl, rfl, rfl, rfl, rfl, rfl, rfl, rfl, rfl, rfl, rfl, rfl, rfl, rfl, rfl, rfl, rfl, rfl, rfl, trivial⟩ 51 rfl (by decide +kernel) rfl 0 rfl rfl rfl hl.1 rfl (Nat.le_of_ble_eq_true rfl) ⟨Nat.le_refl 0, Nat.le_refl 0⟩ dX7_expire_7 (fun H locs hP hD hS => ?_)
    obtain ⟨rfl, rfl⟩ := some2 he
    exact cRi hx hb hr hlk hK rfl hP hD hS dX7_expire_10
  exact key ss.heap [] rfl rfl hP hS
theorem kX7_isSheet : yX7_isSheet.cls = RX7 ∧ yX7_isSheet.cls ≠ "java/lang/invoke/MethodHandle" ∧ yX7_isSheet.cls ≠ "java/lang/invoke/VarHandle" ∧ (parseMethodDescriptor yX7_isSheet.desc).map (fun d => d.parameters.length) = some 1 := by decide +kernel
set_option maxRecDepth 100000 in
set_option maxHeartbeats 4000000 in
theorem mX7_isSheet (l : Launch) (D : va_G) (k : Nat → ClassId)   {p0 : Int32} {r : Int32}  (he : xX7_isSheet p0 = some r) : CtI l D k yX7_isSheet wsX7_isSheet ({ frames := 0, cells := 0, slots := 0, locals := 0 } : Room) [.int p0] [] r [] := by
  intro sz9
  refine cSt (lv := [(0, .int p0)]) (own := RX7) (cc := cX7_isSheet) (nL := 1) (ret := (some .boolean)) (by decide +kernel) rfl rfl (Nat.le_of_ble_eq_true rfl) rfl ?_
  intro pp ee ss mm bl me co hsz hC0 hP hD hS ls hl
  subst hsz
  obtain ⟨hx, hb, hr, hml, hown, hts, hK, hlk⟩ := hC0
  have hA : ∀ q, ss.heap.size ≤ q → va_A [] ss.heap.size q := fun q h => Or.inr h
  have hS0 := hS
  have key : ∀ (H : Heap) (locs : List Loc), H = ss.heap → locs = [] → va_P D vwCl [] H → va_S (va_A [] ss.heap.size) ss.heap H locs → W pp l ee ({ frames := 0, cells := 0, slots := 0, locals := 0 } : Room) ss mm ([.int p0] : List Value).toArray bl me co H locs 0 0 (MQ bl (cQi D k [] ss.heap.size r []) ([.int p0] : List Value).toArray ss 0 0 (va_A [] ss.heap.size)) (F0 mm 0 ls []) := by
    intro H locs _ _ hP hS
    refine lv_iload_n hx hb dX7_isSheet_0 rfl (lv_at hl 0 rfl) ?_
    refine lv_if_lt (tgt := 13) hx hb dX7_isSheet_1 (by decide) (fun c1001 => ?_) (fun c1001 => ?_)
    · have he := ifp he c1001
      refine lv_iconst (v := 0) hx hb dX7_isSheet_13 (by decide) ?_
      obtain rfl := some1 he
      exact cRi hx hb hr hlk hK rfl hP hD hS dX7_isSheet_14
    · have he := ifn he c1001
      refine lv_iload_n hx hb dX7_isSheet_4 rfl (lv_at hl 0 rfl) ?_
      refine lv_iconst (v := 4) hx hb dX7_isSheet_5 (by decide) ?_
      refine lv_icmp_ge (tgt := 13) hx hb dX7_isSheet_6 (by decide) (fun c1002 => ?_) (fun c1002 => ?_)
      · have he := ifp he c1002
        refine lv_iconst (v := 0) hx hb dX7_isSheet_13 (by decide) ?_
        obtain rfl := some1 he
        exact cRi hx hb hr hlk hK rfl hP hD hS dX7_isSheet_14
      · have he := ifn he c1002
        refine lv_iconst (v := 1) hx hb dX7_isSheet_9 (by decide) ?_
        refine lv_goto (tgt := 14) hx hb dX7_isSheet_10 (by decide) ?_
        obtain rfl := some1 he
        exact cRi hx hb hr hlk hK rfl hP hD hS dX7_isSheet_14
  exact key ss.heap [] rfl rfl hP hS
theorem kX7_sheet : yX7_sheet.cls = RX7 ∧ yX7_sheet.cls ≠ "java/lang/invoke/MethodHandle" ∧ yX7_sheet.cls ≠ "java/lang/invoke/VarHandle" ∧ (parseMethodDescriptor yX7_sheet.desc).map (fun d => d.parameters.length) = some 3 := by decide +kernel
set_option maxRecDepth 100000 in
set_option maxHeartbeats 4000000 in
theorem mX7_sheet (l : Launch) (D : va_G) (k : Nat → ClassId) (d : Nat → Nat) (a : Nat → Nat) (a2 : Nat → Nat) (a3 : Nat → Nat) (h : Nat → Nat) (c : Nat → Nat) (g : Nat → Nat) (t0 : Nat → Nat) (t1 : Nat → Nat) (t2 : Nat → Nat) (t3 : Nat → Nat) (b : Nat) (v : Nat) (o : Nat) (b2 : Nat) {P : Nat → Nat → Int32} {T : Nat → Nat → Int32} {K : Nat → Nat → Int32} {X : Nat → Int32} {Y : Nat → Int32} {C : Nat → Int32} {F : Nat → Int64} {z : Int32} {SO_0 : Nat → Int32} {LE_0 : Nat → Int32} {RO_0 : Nat → Nat → Int64} {hi : Int32} {p1 : Int32} {p2 : Int32} {p3 : Int32} {r : Int32} {SO' : Nat → Int32} {LE' : Nat → Int32} {RO' : Nat → Nat → Int64} (he : xX7_sheet SO_0 LE_0 RO_0 p1 p2 p3 = some (r, SO', LE', RO')) : CtI l D k yX7_sheet wsX7_sheet ({ frames := 2, cells := 0, slots := 0, locals := 46 } : Room) [.ref (d 0), .int p1, .int p2, .int p3] (wMain k d a a2 a3 h c g t0 t1 t2 t3 b v o b2 P T K X Y C F z SO_0 LE_0 RO_0 hi) r (wMain k d a a2 a3 h c g t0 t1 t2 t3 b v o b2 P T K X Y C F z SO' LE' RO' hi) := by
  intro sz9
  refine cSt (lv := [(0, .ref (d 0)), (1, .int p1), (2, .int p2), (3, .int p3)]) (own := RX7) (cc := cX7_sheet) (nL := 4) (ret := (some .int)) (by decide +kernel) rfl rfl (Nat.le_of_ble_eq_true rfl) rfl ?_
  intro pp ee ss mm bl me co hsz hC0 hP hD hS ls hl
  subst hsz
  obtain ⟨hx, hb, hr, hml, hown, hts, hK, hlk⟩ := hC0
  have hA : ∀ q, ss.heap.size ≤ q → va_A (wMain k d a a2 a3 h c g t0 t1 t2 t3 b v o b2 P T K X Y C F z SO_0 LE_0 RO_0 hi) ss.heap.size q := fun q h => Or.inr h
  have iX7 : ∀ w ∈ wsX70, w ∈ wsX7_sheet := fun _ h => List.mem_cons_of_mem _ (List.mem_append_left _ (List.mem_append_right _ h))
  have w1 := hts (.fieldLink RX7 56 "DeadListPool" "sheets" "[LDeadListPool$Sheet;") (List.mem_of_getElem? (i := 1) rfl)
  have hS0 := hS
  have key : ∀ (H : Heap) (locs : List Loc), H = ss.heap → locs = [] → va_P D vwCl (wMain k d a a2 a3 h c g t0 t1 t2 t3 b v o b2 P T K X Y C F z SO_0 LE_0 RO_0 hi) H → va_S (va_A (wMain k d a a2 a3 h c g t0 t1 t2 t3 b v o b2 P T K X Y C F z SO_0 LE_0 RO_0 hi) ss.heap.size) ss.heap H locs → W pp l ee ({ frames := 2, cells := 0, slots := 0, locals := 46 } : Room) ss mm ([.ref (d 0), .int p1, .int p2, .int p3] : List Value).toArray bl me co H locs 0 0 (MQ bl (cQi D k (wMain k d a a2 a3 h c g t0 t1 t2 t3 b v o b2 P T K X Y C F z SO_0 LE_0 RO_0 hi) ss.heap.size r (wMain k d a a2 a3 h c g t0 t1 t2 t3 b v o b2 P T K X Y C F z SO' LE' RO' hi)) ([.ref (d 0), .int p1, .int p2, .int p3] : List Value).toArray ss 0 0 (va_A (wMain k d a a2 a3 h c g t0 t1 t2 t3 b v o b2 P T K X Y C F z SO_0 LE_0 RO_0 hi) ss.heap.size)) (F0 mm 0 ls []) := by
    intro H locs _ _ hP hS
    refine lv_iload_n hx hb dX7_sheet_0 rfl (lv_at hl 1 rfl) ?_
    obtain ⟨v1001, h1002, he⟩ := bn1_i he
    refine cSi (rest := []) ⟨hx, hb, hml, hown, hts⟩ hK hA hP hD hS (mX7_isSheet l D k h1002) (cwS 1 hts gX7_sheet_X7_isSheet rfl rfl rfl kX7_isSheet ⟨Nat.le_of_ble_eq_true rfl, Nat.le_of_ble_eq_true rfl⟩) rfl hl.1 rfl (Nat.le_of_ble_eq_true rfl) ⟨Nat.le_refl 0, Nat.le_refl 0⟩ dX7_sheet_1 (fun H locs hP hD hS => ?_)
    refine lv_if_eq (tgt := 17) hx hb dX7_sheet_4 (by decide) (fun c1003 => ?_) (fun c1003 => ?_)
    · have he := ifp he c1003
      refine lv_bipush (v := (-2)) hx hb dX7_sheet_17 (by decide) ?_
      obtain ⟨rfl, rfl, rfl, rfl⟩ := some4 he
      exact cRi hx hb hr hlk hK rfl hP hD hS dX7_sheet_19
    · have he := ifn he c1003
      refine lv_iload_n hx hb dX7_sheet_7 rfl (lv_at hl 2 rfl) ?_
      refine lv_iconst (v := (-1)) hx hb dX7_sheet_8 (by decide) ?_
      refine lv_icmp_lt (tgt := 17) hx hb dX7_sheet_9 (by decide) (fun c1004 => ?_) (fun c1004 => ?_)
      · have he := ifp he c1004
        refine lv_bipush (v := (-2)) hx hb dX7_sheet_17 (by decide) ?_
        obtain ⟨rfl, rfl, rfl, rfl⟩ := some4 he
        exact cRi hx hb hr hlk hK rfl hP hD hS dX7_sheet_19
      · have he := ifn he c1004
        refine lv_iload_n hx hb dX7_sheet_12 rfl (lv_at hl 2 rfl) ?_
        refine lv_iconst (v := 1) hx hb dX7_sheet_13 (by decide) ?_
        refine lv_icmp_le (tgt := 20) hx hb dX7_sheet_14 (by decide) (fun c1005 => ?_) (fun c1005 => ?_)
        · have he := ifp he c1005
          refine lv_iload_n hx hb dX7_sheet_20 rfl (lv_at hl 2 rfl) ?_
          refine lv_iconst (v := (-1)) hx hb dX7_sheet_21 (by decide) ?_
          refine lv_icmp_ne (tgt := 36) hx hb dX7_sheet_22 (by decide) (fun c1006 => ?_) (fun c1006 => ?_)
          · have he := ifn he c1006
            refine lv_iload_n hx hb dX7_sheet_36 rfl (lv_at hl 3 rfl) ?_
            refine lv_bipush (v := 40) hx hb dX7_sheet_37 (by decide) ?_
            refine lv_icmp_le (tgt := 45) hx hb dX7_sheet_39 (by decide) (fun c1007 => ?_) (fun c1007 => ?_)
            · have he := ifp he c1007
              refine lv_iload_n hx hb dX7_sheet_45 rfl (lv_at hl 3 rfl) ?_
              refine lv_if_ge (tgt := 52) hx hb dX7_sheet_46 (by decide) (fun c1008 => ?_) (fun c1008 => ?_)
              · have he := ifp he c1008
                refine lv_aload_n hx hb dX7_sheet_52 rfl (lv_at hl 0 rfl) ?_
                refine va_get (D := D) (ci := 7) (v := .ref (d 1)) (C := RX7) (T := TX7) (N := 9) hx hb hts iX7 hown hK hP 0 rfl rfl 7 (by decide) w1 (fun _ h9 => h9) rfl dX7_sheet_53 ?_
                refine lv_iload_n hx hb dX7_sheet_56 rfl (lv_at hl 1 rfl) ?_
                obtain ⟨h1009, he⟩ := grd_i he
                by_cases c1020 : p1 = 0
                · have he := ifp he c1020
                  refine va_aldq hx hb hK hP 1 2 rfl rfl (ix_in h1009) dX7_sheet_57 ?_
                  refine W.eq (g2 := F0 mm 58 ls [.ref (t0 0)]) (by rw [c1020]; rfl) ?_
                  refine lv_iload_n hx hb dX7_sheet_58 rfl (lv_at hl 2 rfl) ?_
                  refine lv_iload_n hx hb dX7_sheet_59 rfl (lv_at hl 3 rfl) ?_
                  obtain ⟨SO1010, LE1011, RO1012, h1013, he⟩ := bn3_i he
                  obtain ⟨SO1014, e1015, he⟩ := lt_i he
                  obtain ⟨LE1016, e1017, he⟩ := lt_i he
                  obtain ⟨RO1018, e1019, he⟩ := lt_i he
                  refine cVv (wf := (wMain k d a a2 a3 h c g t0 t1 t2 t3 b v o b2 P T K X Y C F z SO1014 LE1016 RO1018 hi)) (As := [.int p2, .int p3]) (rest := []) ⟨hx, hb, hml, hown, hts⟩ hK hA hP hD hS (mX5_layOut l D k t0 (so_0 := (SO_0 0)) (le_0 := (LE_0 0)) (ro_0 := (RO_0 0)) h1013) (cwV 2 hts gX7_sheet_X5_layOut rfl rfl rfl kX5_layOut ⟨Nat.le_of_ble_eq_true rfl, Nat.le_of_ble_eq_true rfl⟩) [43, 44] rfl rfl (by rw [e1019, e1017, e1015]; rfl) [true, true, true, true, true, true, true, true, true, true, true, true, true, true, true, true, true, true, true, true, true, true, true, true, true, true, true, true, true, true, true, true, true, true, true, true, true, true, true, true, true, true, true, false, false, true, true, true, true, true, true] (by rw [e1019, e1017, e1015]; exact ⟨rfl, rfl, rfl, rfl, rfl, rfl, rfl, rfl, rfl, rfl, rfl, rfl, rfl, rfl, rfl, rfl, rfl, rfl, rfl, rfl, rfl, rfl, rfl, rfl, rfl, rfl, rfl, rfl, rfl, rfl, rfl, rfl, rfl, rfl, rfl, rfl, rfl, rfl, rfl, rfl, rfl, rfl, rfl, rfl, rfl, rfl, rfl, rfl, rfl, trivial⟩) 51 rfl (by decide +kernel) rfl 0 rfl rfl rfl hl.1 rfl (Nat.le_of_ble_eq_true rfl) ⟨Nat.le_refl 0, Nat.le_refl 0⟩ dX7_sheet_60 (fun H locs hP hD hS => ?_)
                  refine lv_iconst (v := 1) hx hb dX7_sheet_63 (by decide) ?_
                  obtain ⟨rfl, rfl, rfl, rfl⟩ := some4 he
                  exact cRi hx hb hr hlk hK rfl hP hD hS dX7_sheet_64
                · have he := ifn he c1020
                  by_cases c1032 : p1 = 1
                  · have he := ifp he c1032
                    refine va_aldq hx hb hK hP 1 2 rfl rfl (ix_in h1009) dX7_sheet_57 ?_
                    refine W.eq (g2 := F0 mm 58 ls [.ref (t1 0)]) (by rw [c1032]; rfl) ?_
                    refine lv_iload_n hx hb dX7_sheet_58 rfl (lv_at hl 2 rfl) ?_
                    refine lv_iload_n hx hb dX7_sheet_59 rfl (lv_at hl 3 rfl) ?_
                    obtain ⟨SO1022, LE1023, RO1024, h1025, he⟩ := bn3_i he
                    obtain ⟨SO1026, e1027, he⟩ := lt_i he
                    obtain ⟨LE1028, e1029, he⟩ := lt_i he
                    obtain ⟨RO1030, e1031, he⟩ := lt_i he
                    refine cVv (wf := (wMain k d a a2 a3 h c g t0 t1 t2 t3 b v o b2 P T K X Y C F z SO1026 LE1028 RO1030 hi)) (As := [.int p2, .int p3]) (rest := []) ⟨hx, hb, hml, hown, hts⟩ hK hA hP hD hS (mX5_layOut l D k t1 (so_0 := (SO_0 1)) (le_0 := (LE_0 1)) (ro_0 := (RO_0 1)) h1025) (cwV 2 hts gX7_sheet_X5_layOut rfl rfl rfl kX5_layOut ⟨Nat.le_of_ble_eq_true rfl, Nat.le_of_ble_eq_true rfl⟩) [45, 46] rfl rfl (by rw [e1031, e1029, e1027]; rfl) [true, true, true, true, true, true, true, true, true, true, true, true, true, true, true, true, true, true, true, true, true, true, true, true, true, true, true, true, true, true, true, true, true, true, true, true, true, true, true, true, true, true, true, true, true, false, false, true, true, true, true] (by rw [e1031, e1029, e1027]; exact ⟨rfl, rfl, rfl, rfl, rfl, rfl, rfl, rfl, rfl, rfl, rfl, rfl, rfl, rfl, rfl, rfl, rfl, rfl, rfl, rfl, rfl, rfl, rfl, rfl, rfl, rfl, rfl, rfl, rfl, rfl, rfl, rfl, rfl, rfl, rfl, rfl, rfl, rfl, rfl, rfl, rfl, rfl, rfl, rfl, rfl, rfl, rfl, rfl, rfl, trivial⟩) 51 rfl (by decide +kernel) rfl 0 rfl rfl rfl hl.1 rfl (Nat.le_of_ble_eq_true rfl) ⟨Nat.le_refl 0, Nat.le_refl 0⟩ dX7_sheet_60 (fun H locs hP hD hS => ?_)
                    refine lv_iconst (v := 1) hx hb dX7_sheet_63 (by decide) ?_
                    obtain ⟨rfl, rfl, rfl, rfl⟩ := some4 he
                    exact cRi hx hb hr hlk hK rfl hP hD hS dX7_sheet_64
                  · have he := ifn he c1032
                    by_cases c1044 : p1 = 2
                    · have he := ifp he c1044
                      refine va_aldq hx hb hK hP 1 2 rfl rfl (ix_in h1009) dX7_sheet_57 ?_
                      refine W.eq (g2 := F0 mm 58 ls [.ref (t2 0)]) (by rw [c1044]; rfl) ?_
                      refine lv_iload_n hx hb dX7_sheet_58 rfl (lv_at hl 2 rfl) ?_
                      refine lv_iload_n hx hb dX7_sheet_59 rfl (lv_at hl 3 rfl) ?_
                      obtain ⟨SO1034, LE1035, RO1036, h1037, he⟩ := bn3_i he
                      obtain ⟨SO1038, e1039, he⟩ := lt_i he
                      obtain ⟨LE1040, e1041, he⟩ := lt_i he
                      obtain ⟨RO1042, e1043, he⟩ := lt_i he
                      refine cVv (wf := (wMain k d a a2 a3 h c g t0 t1 t2 t3 b v o b2 P T K X Y C F z SO1038 LE1040 RO1042 hi)) (As := [.int p2, .int p3]) (rest := []) ⟨hx, hb, hml, hown, hts⟩ hK hA hP hD hS (mX5_layOut l D k t2 (so_0 := (SO_0 2)) (le_0 := (LE_0 2)) (ro_0 := (RO_0 2)) h1037) (cwV 2 hts gX7_sheet_X5_layOut rfl rfl rfl kX5_layOut ⟨Nat.le_of_ble_eq_true rfl, Nat.le_of_ble_eq_true rfl⟩) [47, 48] rfl rfl (by rw [e1043, e1041, e1039]; rfl) [true, true, true, true, true, true, true, true, true, true, true, true, true, true, true, true, true, true, true, true, true, true, true, true, true, true, true, true, true, true, true, true, true, true, true, true, true, true, true, true, true, true, true, true, true, true, true, false, false, true, true] (by rw [e1043, e1041, e1039]; exact ⟨rfl, rfl, rfl, rfl, rfl, rfl, rfl, rfl, rfl, rfl, rfl, rfl, rfl, rfl, rfl, rfl, rfl, rfl, rfl, rfl, rfl, rfl, rfl, rfl, rfl, rfl, rfl, rfl, rfl, rfl, rfl, rfl, rfl, rfl, rfl, rfl, rfl, rfl, rfl, rfl, rfl, rfl, rfl, rfl, rfl, rfl, rfl, rfl, rfl, trivial⟩) 51 rfl (by decide +kernel) rfl 0 rfl rfl rfl hl.1 rfl (Nat.le_of_ble_eq_true rfl) ⟨Nat.le_refl 0, Nat.le_refl 0⟩ dX7_sheet_60 (fun H locs hP hD hS => ?_)
                      refine lv_iconst (v := 1) hx hb dX7_sheet_63 (by decide) ?_
                      obtain ⟨rfl, rfl, rfl, rfl⟩ := some4 he
                      exact cRi hx hb hr hlk hK rfl hP hD hS dX7_sheet_64
                    · have he := ifn he c1044
                      have c1045 : p1 = 3 := ix4 h1009 c1020 c1032 c1044
                      refine va_aldq hx hb hK hP 1 2 rfl rfl (ix_in h1009) dX7_sheet_57 ?_
                      refine W.eq (g2 := F0 mm 58 ls [.ref (t3 0)]) (by rw [c1045]; rfl) ?_
                      refine lv_iload_n hx hb dX7_sheet_58 rfl (lv_at hl 2 rfl) ?_
                      refine lv_iload_n hx hb dX7_sheet_59 rfl (lv_at hl 3 rfl) ?_
                      obtain ⟨SO1046, LE1047, RO1048, h1049, he⟩ := bn3_i he
                      obtain ⟨SO1050, e1051, he⟩ := lt_i he
                      obtain ⟨LE1052, e1053, he⟩ := lt_i he
                      obtain ⟨RO1054, e1055, he⟩ := lt_i he
                      refine cVv (wf := (wMain k d a a2 a3 h c g t0 t1 t2 t3 b v o b2 P T K X Y C F z SO1050 LE1052 RO1054 hi)) (As := [.int p2, .int p3]) (rest := []) ⟨hx, hb, hml, hown, hts⟩ hK hA hP hD hS (mX5_layOut l D k t3 (so_0 := (SO_0 3)) (le_0 := (LE_0 3)) (ro_0 := (RO_0 3)) h1049) (cwV 2 hts gX7_sheet_X5_layOut rfl rfl rfl kX5_layOut ⟨Nat.le_of_ble_eq_true rfl, Nat.le_of_ble_eq_true rfl⟩) [49, 50] rfl rfl (by rw [e1055, e1053, e1051]; rfl) [true, true, true, true, true, true, true, true, true, true, true, true, true, true, true, true, true, true, true, true, true, true, true, true, true, true, true, true, true, true, true, true, true, true, true, true, true, true, true, true, true, true, true, true, true, true, true, true, true, false, false] (by rw [e1055, e1053, e1051]; exact ⟨rfl, rfl, rfl, rfl, rfl, rfl, rfl, rfl, rfl, rfl, rfl, rfl, rfl, rfl, rfl, rfl, rfl, rfl, rfl, rfl, rfl, rfl, rfl, rfl, rfl, rfl, rfl, rfl, rfl, rfl, rfl, rfl, rfl, rfl, rfl, rfl, rfl, rfl, rfl, rfl, rfl, rfl, rfl, rfl, rfl, rfl, rfl, rfl, rfl, trivial⟩) 51 rfl (by decide +kernel) rfl 0 rfl rfl rfl hl.1 rfl (Nat.le_of_ble_eq_true rfl) ⟨Nat.le_refl 0, Nat.le_refl 0⟩ dX7_sheet_60 (fun H locs hP hD hS => ?_)
                      refine lv_iconst (v := 1) hx hb dX7_sheet_63 (by decide) ?_
                      obtain ⟨rfl, rfl, rfl, rfl⟩ := some4 he
                      exact cRi hx hb hr hlk hK rfl hP hD hS dX7_sheet_64
              · have he := ifn he c1008
                refine lv_bipush (v := (-14)) hx hb dX7_sheet_49 (by decide) ?_
                obtain ⟨rfl, rfl, rfl, rfl⟩ := some4 he
                exact cRi hx hb hr hlk hK rfl hP hD hS dX7_sheet_51
            · have he := ifn he c1007
              refine lv_bipush (v := (-2)) hx hb dX7_sheet_42 (by decide) ?_
              obtain ⟨rfl, rfl, rfl, rfl⟩ := some4 he
              exact cRi hx hb hr hlk hK rfl hP hD hS dX7_sheet_44
          · have he := ifp he c1006
            refine lv_aload_n hx hb dX7_sheet_25 rfl (lv_at hl 0 rfl) ?_
            refine va_get (D := D) (ci := 7) (v := .ref (d 1)) (C := RX7) (T := TX7) (N := 9) hx hb hts iX7 hown hK hP 0 rfl rfl 7 (by decide) w1 (fun _ h9 => h9) rfl dX7_sheet_26 ?_
            refine lv_iload_n hx hb dX7_sheet_29 rfl (lv_at hl 1 rfl) ?_
            obtain ⟨h1056, he⟩ := grd_i he
            by_cases c1064 : p1 = 0
            · have he := ifp he c1064
              refine va_aldq hx hb hK hP 1 2 rfl rfl (ix_in h1056) dX7_sheet_30 ?_
              refine W.eq (g2 := F0 mm 31 ls [.ref (t0 0)]) (by rw [c1064]; rfl) ?_
              obtain ⟨SO1057, LE1058, h1059, he⟩ := bn2_i he
              obtain ⟨SO1060, e1061, he⟩ := lt_i he
              obtain ⟨LE1062, e1063, he⟩ := lt_i he
              refine cVv (wf := (wMain k d a a2 a3 h c g t0 t1 t2 t3 b v o b2 P T K X Y C F z SO1060 LE1062 RO_0 hi)) (As := []) (rest := []) ⟨hx, hb, hml, hown, hts⟩ hK hA hP hD hS (mX5_layAside l D k t0 (so_0 := (SO_0 0)) (le_0 := (LE_0 0)) (ro := (RO_0 0)) h1059) (cwV 0 hts gX7_sheet_X5_layAside rfl rfl rfl kX5_layAside ⟨Nat.le_of_ble_eq_true rfl, Nat.le_of_ble_eq_true rfl⟩) [43, 44] rfl rfl (by rw [e1063, e1061]; rfl) [true, true, true, true, true, true, true, true, true, true, true, true, true, true, true, true, true, true, true, true, true, true, true, true, true, true, true, true, true, true, true, true, true, true, true, true, true, true, true, true, true, true, true, false, false, true, true, true, true, true, true] (by rw [e1063, e1061]; exact ⟨rfl, rfl, rfl, rfl, rfl, rfl, rfl, rfl, rfl, rfl, rfl, rfl, rfl, rfl, rfl, rfl, rfl, rfl, rfl, rfl, rfl, rfl, rfl, rfl, rfl, rfl, rfl, rfl, rfl, rfl, rfl, rfl, rfl, rfl, rfl, rfl, rfl, rfl, rfl, rfl, rfl, rfl, rfl, rfl, rfl, rfl, rfl, rfl, rfl, trivial⟩) 51 rfl (by decide +kernel) rfl 0 rfl rfl rfl hl.1 rfl (Nat.le_of_ble_eq_true rfl) ⟨Nat.le_refl 0, Nat.le_refl 0⟩ dX7_sheet_31 (fun H locs hP hD hS => ?_)
              refine lv_iconst (v := 1) hx hb dX7_sheet_34 (by decide) ?_
              obtain ⟨rfl, rfl, rfl, rfl⟩ := some4 he
              exact cRi hx hb hr hlk hK rfl hP hD hS dX7_sheet_35
            · have he := ifn he c1064
              by_cases c1073 : p1 = 1
              · have he := ifp he c1073
                refine va_aldq hx hb hK hP 1 2 rfl rfl (ix_in h1056) dX7_sheet_30 ?_
                refine W.eq (g2 := F0 mm 31 ls [.ref (t1 0)]) (by rw [c1073]; rfl) ?_
                obtain ⟨SO1066, LE1067, h1068, he⟩ := bn2_i he
                obtain ⟨SO1069, e1070, he⟩ := lt_i he
                obtain ⟨LE1071, e1072, he⟩ := lt_i he
                refine cVv (wf := (wMain k d a a2 a3 h c g t0 t1 t2 t3 b v o b2 P T K X Y C F z SO1069 LE1071 RO_0 hi)) (As := []) (rest := []) ⟨hx, hb, hml, hown, hts⟩ hK hA hP hD hS (mX5_layAside l D k t1 (so_0 := (SO_0 1)) (le_0 := (LE_0 1)) (ro := (RO_0 1)) h1068) (cwV 0 hts gX7_sheet_X5_layAside rfl rfl rfl kX5_layAside ⟨Nat.le_of_ble_eq_true rfl, Nat.le_of_ble_eq_true rfl⟩) [45, 46] rfl rfl (by rw [e1072, e1070]; rfl) [true, true, true, true, true, true, true, true, true, true, true, true, true, true, true, true, true, true, true, true, true, true, true, true, true, true, true, true, true, true, true, true, true, true, true, true, true, true, true, true, true, true, true, true, true, false, false, true, true, true, true] (by rw [e1072, e1070]; exact ⟨rfl, rfl, rfl, rfl, rfl, rfl, rfl, rfl, rfl, rfl, rfl, rfl, rfl, rfl, rfl, rfl, rfl, rfl, rfl, rfl, rfl, rfl, rfl, rfl, rfl, rfl, rfl, rfl, rfl, rfl, rfl, rfl, rfl, rfl, rfl, rfl, rfl, rfl, rfl, rfl, rfl, rfl, rfl, rfl, rfl, rfl, rfl, rfl, rfl, trivial⟩) 51 rfl (by decide +kernel) rfl 0 rfl rfl rfl hl.1 rfl (Nat.le_of_ble_eq_true rfl) ⟨Nat.le_refl 0, Nat.le_refl 0⟩ dX7_sheet_31 (fun H locs hP hD hS => ?_)
                refine lv_iconst (v := 1) hx hb dX7_sheet_34 (by decide) ?_
                obtain ⟨rfl, rfl, rfl, rfl⟩ := some4 he
                exact cRi hx hb hr hlk hK rfl hP hD hS dX7_sheet_35
              · have he := ifn he c1073
                by_cases c1082 : p1 = 2
                · have he := ifp he c1082
                  refine va_aldq hx hb hK hP 1 2 rfl rfl (ix_in h1056) dX7_sheet_30 ?_
                  refine W.eq (g2 := F0 mm 31 ls [.ref (t2 0)]) (by rw [c1082]; rfl) ?_
                  obtain ⟨SO1075, LE1076, h1077, he⟩ := bn2_i he
                  obtain ⟨SO1078, e1079, he⟩ := lt_i he
                  obtain ⟨LE1080, e1081, he⟩ := lt_i he
                  refine cVv (wf := (wMain k d a a2 a3 h c g t0 t1 t2 t3 b v o b2 P T K X Y C F z SO1078 LE1080 RO_0 hi)) (As := []) (rest := []) ⟨hx, hb, hml, hown, hts⟩ hK hA hP hD hS (mX5_layAside l D k t2 (so_0 := (SO_0 2)) (le_0 := (LE_0 2)) (ro := (RO_0 2)) h1077) (cwV 0 hts gX7_sheet_X5_layAside rfl rfl rfl kX5_layAside ⟨Nat.le_of_ble_eq_true rfl, Nat.le_of_ble_eq_true rfl⟩) [47, 48] rfl rfl (by rw [e1081, e1079]; rfl) [true, true, true, true, true, true, true, true, true, true, true, true, true, true, true, true, true, true, true, true, true, true, true, true, true, true, true, true, true, true, true, true, true, true, true, true, true, true, true, true, true, true, true, true, true, true, true, false, false, true, true] (by rw [e1081, e1079]; exact ⟨rfl, rfl, rfl, rfl, rfl, rfl, rfl, rfl, rfl, rfl, rfl, rfl, rfl, rfl, rfl, rfl, rfl, rfl, rfl, rfl, rfl, rfl, rfl, rfl, rfl, rfl, rfl, rfl, rfl, rfl, rfl, rfl, rfl, rfl, rfl, rfl, rfl, rfl, rfl, rfl, rfl, rfl, rfl, rfl, rfl, rfl, rfl, rfl, rfl, trivial⟩) 51 rfl (by decide +kernel) rfl 0 rfl rfl rfl hl.1 rfl (Nat.le_of_ble_eq_true rfl) ⟨Nat.le_refl 0, Nat.le_refl 0⟩ dX7_sheet_31 (fun H locs hP hD hS => ?_)
                  refine lv_iconst (v := 1) hx hb dX7_sheet_34 (by decide) ?_
                  obtain ⟨rfl, rfl, rfl, rfl⟩ := some4 he
                  exact cRi hx hb hr hlk hK rfl hP hD hS dX7_sheet_35
                · have he := ifn he c1082
                  have c1083 : p1 = 3 := ix4 h1056 c1064 c1073 c1082
                  refine va_aldq hx hb hK hP 1 2 rfl rfl (ix_in h1056) dX7_sheet_30 ?_
                  refine W.eq (g2 := F0 mm 31 ls [.ref (t3 0)]) (by rw [c1083]; rfl) ?_
                  obtain ⟨SO1084, LE1085, h1086, he⟩ := bn2_i he
                  obtain ⟨SO1087, e1088, he⟩ := lt_i he
                  obtain ⟨LE1089, e1090, he⟩ := lt_i he
                  refine cVv (wf := (wMain k d a a2 a3 h c g t0 t1 t2 t3 b v o b2 P T K X Y C F z SO1087 LE1089 RO_0 hi)) (As := []) (rest := []) ⟨hx, hb, hml, hown, hts⟩ hK hA hP hD hS (mX5_layAside l D k t3 (so_0 := (SO_0 3)) (le_0 := (LE_0 3)) (ro := (RO_0 3)) h1086) (cwV 0 hts gX7_sheet_X5_layAside rfl rfl rfl kX5_layAside ⟨Nat.le_of_ble_eq_true rfl, Nat.le_of_ble_eq_true rfl⟩) [49, 50] rfl rfl (by rw [e1090, e1088]; rfl) [true, true, true, true, true, true, true, true, true, true, true, true, true, true, true, true, true, true, true, true, true, true, true, true, true, true, true, true, true, true, true, true, true, true, true, true, true, true, true, true, true, true, true, true, true, true, true, true, true, false, false] (by rw [e1090, e1088]; exact ⟨rfl, rfl, rfl, rfl, rfl, rfl, rfl, rfl, rfl, rfl, rfl, rfl, rfl, rfl, rfl, rfl, rfl, rfl, rfl, rfl, rfl, rfl, rfl, rfl, rfl, rfl, rfl, rfl, rfl, rfl, rfl, rfl, rfl, rfl, rfl, rfl, rfl, rfl, rfl, rfl, rfl, rfl, rfl, rfl, rfl, rfl, rfl, rfl, rfl, trivial⟩) 51 rfl (by decide +kernel) rfl 0 rfl rfl rfl hl.1 rfl (Nat.le_of_ble_eq_true rfl) ⟨Nat.le_refl 0, Nat.le_refl 0⟩ dX7_sheet_31 (fun H locs hP hD hS => ?_)
                  refine lv_iconst (v := 1) hx hb dX7_sheet_34 (by decide) ?_
                  obtain ⟨rfl, rfl, rfl, rfl⟩ := some4 he
                  exact cRi hx hb hr hlk hK rfl hP hD hS dX7_sheet_35
        · have he := ifn he c1005
          refine lv_bipush (v := (-2)) hx hb dX7_sheet_17 (by decide) ?_
          obtain ⟨rfl, rfl, rfl, rfl⟩ := some4 he
          exact cRi hx hb hr hlk hK rfl hP hD hS dX7_sheet_19
  exact key ss.heap [] rfl rfl hP hS
theorem kX7_cell : yX7_cell.cls = RX7 ∧ yX7_cell.cls ≠ "java/lang/invoke/MethodHandle" ∧ yX7_cell.cls ≠ "java/lang/invoke/VarHandle" ∧ (parseMethodDescriptor yX7_cell.desc).map (fun d => d.parameters.length) = some 3 := by decide +kernel
set_option maxRecDepth 100000 in
set_option maxHeartbeats 4000000 in
theorem mX7_cell (l : Launch) (D : va_G) (k : Nat → ClassId) (d : Nat → Nat) (a : Nat → Nat) (a2 : Nat → Nat) (a3 : Nat → Nat) (h : Nat → Nat) (c : Nat → Nat) (g : Nat → Nat) (t0 : Nat → Nat) (t1 : Nat → Nat) (t2 : Nat → Nat) (t3 : Nat → Nat) (b : Nat) (v : Nat) (o : Nat) (b2 : Nat) {P : Nat → Nat → Int32} {T : Nat → Nat → Int32} {K : Nat → Nat → Int32} {X : Nat → Int32} {Y : Nat → Int32} {C : Nat → Int32} {F : Nat → Int64} {z : Int32} {SO : Nat → Int32} {LE : Nat → Int32} {RO_0 : Nat → Nat → Int64} {hi : Int32} {p1 : Int32} {p2 : Int32} {p3 : Int64} {r : Int32} {RO' : Nat → Nat → Int64} (he : xX7_cell SO LE RO_0 p1 p2 p3 = some (r, RO')) : CtI l D k yX7_cell wsX7_cell ({ frames := 1, cells := 0, slots := 0, locals := 23 } : Room) [.ref (d 0), .int p1, .int p2, .long p3] (wMain k d a a2 a3 h c g t0 t1 t2 t3 b v o b2 P T K X Y C F z SO LE RO_0 hi) r (wMain k d a a2 a3 h c g t0 t1 t2 t3 b v o b2 P T K X Y C F z SO LE RO' hi) := by
  intro sz9
  refine cSt (lv := [(0, .ref (d 0)), (1, .int p1), (2, .int p2), (3, .long p3)]) (own := RX7) (cc := cX7_cell) (nL := 5) (ret := (some .int)) (by decide +kernel) rfl rfl (Nat.le_of_ble_eq_true rfl) rfl ?_
  intro pp ee ss mm bl me co hsz hC0 hP hD hS ls hl
  subst hsz
  obtain ⟨hx, hb, hr, hml, hown, hts, hK, hlk⟩ := hC0
  have hA : ∀ q, ss.heap.size ≤ q → va_A (wMain k d a a2 a3 h c g t0 t1 t2 t3 b v o b2 P T K X Y C F z SO LE RO_0 hi) ss.heap.size q := fun q h => Or.inr h
  have iX7 : ∀ w ∈ wsX70, w ∈ wsX7_cell := fun _ h => List.mem_cons_of_mem _ (List.mem_append_left _ (List.mem_append_right _ h))
  have w1 := hts (.fieldLink RX7 56 "DeadListPool" "sheets" "[LDeadListPool$Sheet;") (List.mem_of_getElem? (i := 1) rfl)
  have hS0 := hS
  have key : ∀ (H : Heap) (locs : List Loc), H = ss.heap → locs = [] → va_P D vwCl (wMain k d a a2 a3 h c g t0 t1 t2 t3 b v o b2 P T K X Y C F z SO LE RO_0 hi) H → va_S (va_A (wMain k d a a2 a3 h c g t0 t1 t2 t3 b v o b2 P T K X Y C F z SO LE RO_0 hi) ss.heap.size) ss.heap H locs → W pp l ee ({ frames := 1, cells := 0, slots := 0, locals := 23 } : Room) ss mm ([.ref (d 0), .int p1, .int p2, .long p3] : List Value).toArray bl me co H locs 0 0 (MQ bl (cQi D k (wMain k d a a2 a3 h c g t0 t1 t2 t3 b v o b2 P T K X Y C F z SO LE RO_0 hi) ss.heap.size r (wMain k d a a2 a3 h c g t0 t1 t2 t3 b v o b2 P T K X Y C F z SO LE RO' hi)) ([.ref (d 0), .int p1, .int p2, .long p3] : List Value).toArray ss 0 0 (va_A (wMain k d a a2 a3 h c g t0 t1 t2 t3 b v o b2 P T K X Y C F z SO LE RO_0 hi) ss.heap.size)) (F0 mm 0 ls []) := by
    intro H locs _ _ hP hS
    refine lv_iload_n hx hb dX7_cell_0 rfl (lv_at hl 1 rfl) ?_
    obtain ⟨v1001, h1002, he⟩ := bn1_i he
    refine cSi (rest := []) ⟨hx, hb, hml, hown, hts⟩ hK hA hP hD hS (mX7_isSheet l D k h1002) (cwS 1 hts gX7_cell_X7_isSheet rfl rfl rfl kX7_isSheet ⟨Nat.le_of_ble_eq_true rfl, Nat.le_of_ble_eq_true rfl⟩) rfl hl.1 rfl (Nat.le_of_ble_eq_true rfl) ⟨Nat.le_refl 0, Nat.le_refl 0⟩ dX7_cell_1 (fun H locs hP hD hS => ?_)
    refine lv_if_ne (tgt := 10) hx hb dX7_cell_4 (by decide) (fun c1003 => ?_) (fun c1003 => ?_)
    · have he := ifn he c1003
      refine lv_aload_n hx hb dX7_cell_10 rfl (lv_at hl 0 rfl) ?_
      refine va_get (D := D) (ci := 7) (v := .ref (d 1)) (C := RX7) (T := TX7) (N := 9) hx hb hts iX7 hown hK hP 0 rfl rfl 7 (by decide) w1 (fun _ h9 => h9) rfl dX7_cell_11 ?_
      refine lv_iload_n hx hb dX7_cell_14 rfl (lv_at hl 1 rfl) ?_
      obtain ⟨h1004, he⟩ := grd_i he
      by_cases c1039 : p1 = 0
      · have he := ifp he c1039
        refine va_aldq hx hb hK hP 1 2 rfl rfl (ix_in h1004) dX7_cell_15 ?_
        refine W.eq (g2 := F0 mm 16 ls [.ref (t0 0)]) (by rw [c1039]; rfl) ?_
        obtain ⟨v1005, h1006, he⟩ := bn1_i he
        refine cVir (As := []) (rest := []) ⟨hx, hb, hml, hown, hts⟩ hK hA hP hD hS (mX5_isMissing l D k t0 (so := (SO 0)) (le := (LE 0)) (ro := (RO_0 0)) h1006) (cwV 0 hts gX7_cell_X5_isMissing rfl rfl rfl kX5_isMissing ⟨Nat.le_of_ble_eq_true rfl, Nat.le_of_ble_eq_true rfl⟩) [43, 44] rfl rfl 0 rfl rfl rfl hl.1 rfl (Nat.le_of_ble_eq_true rfl) ⟨Nat.le_refl 0, Nat.le_refl 0⟩ dX7_cell_16 (fun H locs hP hD hS => ?_)
        refine lv_if_eq (tgt := 25) hx hb dX7_cell_19 (by decide) (fun c1007 => ?_) (fun c1007 => ?_)
        · have he := ifp he c1007
          refine lv_aload_n hx hb dX7_cell_25 rfl (lv_at hl 0 rfl) ?_
          refine va_get (D := D) (ci := 7) (v := .ref (d 1)) (C := RX7) (T := TX7) (N := 9) hx hb hts iX7 hown hK hP 0 rfl rfl 7 (by decide) w1 (fun _ h9 => h9) rfl dX7_cell_26 ?_
          refine lv_iload_n hx hb dX7_cell_29 rfl (lv_at hl 1 rfl) ?_
          obtain ⟨h1008, he⟩ := grd_i he
          by_cases c1015 : p1 = 0
          · have he := ifp he c1015
            refine va_aldq hx hb hK hP 1 2 rfl rfl (ix_in h1008) dX7_cell_30 ?_
            refine W.eq (g2 := F0 mm 31 ls [.ref (t0 0)]) (by rw [c1015]; rfl) ?_
            refine lv_iload_n hx hb dX7_cell_31 rfl (lv_at hl 2 rfl) ?_
            refine lv_lload_n hx hb dX7_cell_32 rfl (lv_at hl 3 rfl) ?_
            obtain ⟨v1009, RO1010, h1011, he⟩ := bn2_i he
            obtain ⟨RO1012, e1013, he⟩ := lt_i he
            refine cVi (wf := (wMain k d a a2 a3 h c g t0 t1 t2 t3 b v o b2 P T K X Y C F z SO LE RO1012 hi)) (As := [.int p2, .long p3]) (rest := []) ⟨hx, hb, hml, hown, hts⟩ hK hA hP hD hS (mX5_put l D k t0 (so := (SO 0)) (le := (LE 0)) (ro_0 := (RO_0 0)) h1011) (cwV 2 hts gX7_cell_X5_put rfl rfl rfl kX5_put ⟨Nat.le_of_ble_eq_true rfl, Nat.le_of_ble_eq_true rfl⟩) [43, 44] rfl rfl (by rw [e1013]; rfl) [true, true, true, true, true, true, true, true, true, true, true, true, true, true, true, true, true, true, true, true, true, true, true, true, true, true, true, true, true, true, true, true, true, true, true, true, true, true, true, true, true, true, true, false, false, true, true, true, true, true, true] (by rw [e1013]; exact ⟨rfl, rfl, rfl, rfl, rfl, rfl, rfl, rfl, rfl, rfl, rfl, rfl, rfl, rfl, rfl, rfl, rfl, rfl, rfl, rfl, rfl, rfl, rfl, rfl, rfl, rfl, rfl, rfl, rfl, rfl, rfl, rfl, rfl, rfl, rfl, rfl, rfl, rfl, rfl, rfl, rfl, rfl, rfl, rfl, rfl, rfl, rfl, rfl, rfl, trivial⟩) 51 rfl (by decide +kernel) rfl 0 rfl rfl rfl hl.1 rfl (Nat.le_of_ble_eq_true rfl) ⟨Nat.le_refl 0, Nat.le_refl 0⟩ dX7_cell_33 (fun H locs hP hD hS => ?_)
            refine lv_if_eq (tgt := 43) hx hb dX7_cell_36 (by decide) (fun c1014 => ?_) (fun c1014 => ?_)
            · have he := ifp he c1014
              refine lv_bipush (v := (-12)) hx hb dX7_cell_43 (by decide) ?_
              obtain ⟨rfl, rfl⟩ := some2 he
              exact cRi hx hb hr hlk hK rfl hP hD hS dX7_cell_45
            · have he := ifn he c1014
              refine lv_iconst (v := 1) hx hb dX7_cell_39 (by decide) ?_
              refine lv_goto (tgt := 45) hx hb dX7_cell_40 (by decide) ?_
              obtain ⟨rfl, rfl⟩ := some2 he
              exact cRi hx hb hr hlk hK rfl hP hD hS dX7_cell_45
          · have he := ifn he c1015
            by_cases c1023 : p1 = 1
            · have he := ifp he c1023
              refine va_aldq hx hb hK hP 1 2 rfl rfl (ix_in h1008) dX7_cell_30 ?_
              refine W.eq (g2 := F0 mm 31 ls [.ref (t1 0)]) (by rw [c1023]; rfl) ?_
              refine lv_iload_n hx hb dX7_cell_31 rfl (lv_at hl 2 rfl) ?_
              refine lv_lload_n hx hb dX7_cell_32 rfl (lv_at hl 3 rfl) ?_
              obtain ⟨v1017, RO1018, h1019, he⟩ := bn2_i he
              obtain ⟨RO1020, e1021, he⟩ := lt_i he
              refine cVi (wf := (wMain k d a a2 a3 h c g t0 t1 t2 t3 b v o b2 P T K X Y C F z SO LE RO1020 hi)) (As := [.int p2, .long p3]) (rest := []) ⟨hx, hb, hml, hown, hts⟩ hK hA hP hD hS (mX5_put l D k t1 (so := (SO 1)) (le := (LE 1)) (ro_0 := (RO_0 1)) h1019) (cwV 2 hts gX7_cell_X5_put rfl rfl rfl kX5_put ⟨Nat.le_of_ble_eq_true rfl, Nat.le_of_ble_eq_true rfl⟩) [45, 46] rfl rfl (by rw [e1021]; rfl) [true, true, true, true, true, true, true, true, true, true, true, true, true, true, true, true, true, true, true, true, true, true, true, true, true, true, true, true, true, true, true, true, true, true, true, true, true, true, true, true, true, true, true, true, true, false, false, true, true, true, true] (by rw [e1021]; exact ⟨rfl, rfl, rfl, rfl, rfl, rfl, rfl, rfl, rfl, rfl, rfl, rfl, rfl, rfl, rfl, rfl, rfl, rfl, rfl, rfl, rfl, rfl, rfl, rfl, rfl, rfl, rfl, rfl, rfl, rfl, rfl, rfl, rfl, rfl, rfl, rfl, rfl, rfl, rfl, rfl, rfl, rfl, rfl, rfl, rfl, rfl, rfl, rfl, rfl, trivial⟩) 51 rfl (by decide +kernel) rfl 0 rfl rfl rfl hl.1 rfl (Nat.le_of_ble_eq_true rfl) ⟨Nat.le_refl 0, Nat.le_refl 0⟩ dX7_cell_33 (fun H locs hP hD hS => ?_)
              refine lv_if_eq (tgt := 43) hx hb dX7_cell_36 (by decide) (fun c1022 => ?_) (fun c1022 => ?_)
              · have he := ifp he c1022
                refine lv_bipush (v := (-12)) hx hb dX7_cell_43 (by decide) ?_
                obtain ⟨rfl, rfl⟩ := some2 he
                exact cRi hx hb hr hlk hK rfl hP hD hS dX7_cell_45
              · have he := ifn he c1022
                refine lv_iconst (v := 1) hx hb dX7_cell_39 (by decide) ?_
                refine lv_goto (tgt := 45) hx hb dX7_cell_40 (by decide) ?_
                obtain ⟨rfl, rfl⟩ := some2 he
                exact cRi hx hb hr hlk hK rfl hP hD hS dX7_cell_45
            · have he := ifn he c1023
              by_cases c1031 : p1 = 2
              · have he := ifp he c1031
                refine va_aldq hx hb hK hP 1 2 rfl rfl (ix_in h1008) dX7_cell_30 ?_
                refine W.eq (g2 := F0 mm 31 ls [.ref (t2 0)]) (by rw [c1031]; rfl) ?_
                refine lv_iload_n hx hb dX7_cell_31 rfl (lv_at hl 2 rfl) ?_
                refine lv_lload_n hx hb dX7_cell_32 rfl (lv_at hl 3 rfl) ?_
                obtain ⟨v1025, RO1026, h1027, he⟩ := bn2_i he
                obtain ⟨RO1028, e1029, he⟩ := lt_i he
                refine cVi (wf := (wMain k d a a2 a3 h c g t0 t1 t2 t3 b v o b2 P T K X Y C F z SO LE RO1028 hi)) (As := [.int p2, .long p3]) (rest := []) ⟨hx, hb, hml, hown, hts⟩ hK hA hP hD hS (mX5_put l D k t2 (so := (SO 2)) (le := (LE 2)) (ro_0 := (RO_0 2)) h1027) (cwV 2 hts gX7_cell_X5_put rfl rfl rfl kX5_put ⟨Nat.le_of_ble_eq_true rfl, Nat.le_of_ble_eq_true rfl⟩) [47, 48] rfl rfl (by rw [e1029]; rfl) [true, true, true, true, true, true, true, true, true, true, true, true, true, true, true, true, true, true, true, true, true, true, true, true, true, true, true, true, true, true, true, true, true, true, true, true, true, true, true, true, true, true, true, true, true, true, true, false, false, true, true] (by rw [e1029]; exact ⟨rfl, rfl, rfl, rfl, rfl, rfl, rfl, rfl, rfl, rfl, rfl, rfl, rfl, rfl, rfl, rfl, rfl, rfl, rfl, rfl, rfl, rfl, rfl, rfl, rfl, rfl, rfl, rfl, rfl, rfl, rfl, rfl, rfl, rfl, rfl, rfl, rfl, rfl, rfl, rfl, rfl, rfl, rfl, rfl, rfl, rfl, rfl, rfl, rfl, trivial⟩) 51 rfl (by decide +kernel) rfl 0 rfl rfl rfl hl.1 rfl (Nat.le_of_ble_eq_true rfl) ⟨Nat.le_refl 0, Nat.le_refl 0⟩ dX7_cell_33 (fun H locs hP hD hS => ?_)
                refine lv_if_eq (tgt := 43) hx hb dX7_cell_36 (by decide) (fun c1030 => ?_) (fun c1030 => ?_)
                · have he := ifp he c1030
                  refine lv_bipush (v := (-12)) hx hb dX7_cell_43 (by decide) ?_
                  obtain ⟨rfl, rfl⟩ := some2 he
                  exact cRi hx hb hr hlk hK rfl hP hD hS dX7_cell_45
                · have he := ifn he c1030
                  refine lv_iconst (v := 1) hx hb dX7_cell_39 (by decide) ?_
                  refine lv_goto (tgt := 45) hx hb dX7_cell_40 (by decide) ?_
                  obtain ⟨rfl, rfl⟩ := some2 he
                  exact cRi hx hb hr hlk hK rfl hP hD hS dX7_cell_45
              · have he := ifn he c1031
                have c1032 : p1 = 3 := ix4 h1008 c1015 c1023 c1031
                refine va_aldq hx hb hK hP 1 2 rfl rfl (ix_in h1008) dX7_cell_30 ?_
                refine W.eq (g2 := F0 mm 31 ls [.ref (t3 0)]) (by rw [c1032]; rfl) ?_
                refine lv_iload_n hx hb dX7_cell_31 rfl (lv_at hl 2 rfl) ?_
                refine lv_lload_n hx hb dX7_cell_32 rfl (lv_at hl 3 rfl) ?_
                obtain ⟨v1033, RO1034, h1035, he⟩ := bn2_i he
                obtain ⟨RO1036, e1037, he⟩ := lt_i he
                refine cVi (wf := (wMain k d a a2 a3 h c g t0 t1 t2 t3 b v o b2 P T K X Y C F z SO LE RO1036 hi)) (As := [.int p2, .long p3]) (rest := []) ⟨hx, hb, hml, hown, hts⟩ hK hA hP hD hS (mX5_put l D k t3 (so := (SO 3)) (le := (LE 3)) (ro_0 := (RO_0 3)) h1035) (cwV 2 hts gX7_cell_X5_put rfl rfl rfl kX5_put ⟨Nat.le_of_ble_eq_true rfl, Nat.le_of_ble_eq_true rfl⟩) [49, 50] rfl rfl (by rw [e1037]; rfl) [true, true, true, true, true, true, true, true, true, true, true, true, true, true, true, true, true, true, true, true, true, true, true, true, true, true, true, true, true, true, true, true, true, true, true, true, true, true, true, true, true, true, true, true, true, true, true, true, true, false, false] (by rw [e1037]; exact ⟨rfl, rfl, rfl, rfl, rfl, rfl, rfl, rfl, rfl, rfl, rfl, rfl, rfl, rfl, rfl, rfl, rfl, rfl, rfl, rfl, rfl, rfl, rfl, rfl, rfl, rfl, rfl, rfl, rfl, rfl, rfl, rfl, rfl, rfl, rfl, rfl, rfl, rfl, rfl, rfl, rfl, rfl, rfl, rfl, rfl, rfl, rfl, rfl, rfl, trivial⟩) 51 rfl (by decide +kernel) rfl 0 rfl rfl rfl hl.1 rfl (Nat.le_of_ble_eq_true rfl) ⟨Nat.le_refl 0, Nat.le_refl 0⟩ dX7_cell_33 (fun H locs hP hD hS => ?_)
                refine lv_if_eq (tgt := 43) hx hb dX7_cell_36 (by decide) (fun c1038 => ?_) (fun c1038 => ?_)
                · have he := ifp he c1038
                  refine lv_bipush (v := (-12)) hx hb dX7_cell_43 (by decide) ?_
                  obtain ⟨rfl, rfl⟩ := some2 he
                  exact cRi hx hb hr hlk hK rfl hP hD hS dX7_cell_45
                · have he := ifn he c1038
                  refine lv_iconst (v := 1) hx hb dX7_cell_39 (by decide) ?_
                  refine lv_goto (tgt := 45) hx hb dX7_cell_40 (by decide) ?_
                  obtain ⟨rfl, rfl⟩ := some2 he
                  exact cRi hx hb hr hlk hK rfl hP hD hS dX7_cell_45
        · have he := ifn he c1007
          refine lv_bipush (v := (-11)) hx hb dX7_cell_22 (by decide) ?_
          obtain ⟨rfl, rfl⟩ := some2 he
          exact cRi hx hb hr hlk hK rfl hP hD hS dX7_cell_24
      · have he := ifn he c1039
        by_cases c1075 : p1 = 1
        · have he := ifp he c1075
          refine va_aldq hx hb hK hP 1 2 rfl rfl (ix_in h1004) dX7_cell_15 ?_
          refine W.eq (g2 := F0 mm 16 ls [.ref (t1 0)]) (by rw [c1075]; rfl) ?_
          obtain ⟨v1041, h1042, he⟩ := bn1_i he
          refine cVir (As := []) (rest := []) ⟨hx, hb, hml, hown, hts⟩ hK hA hP hD hS (mX5_isMissing l D k t1 (so := (SO 1)) (le := (LE 1)) (ro := (RO_0 1)) h1042) (cwV 0 hts gX7_cell_X5_isMissing rfl rfl rfl kX5_isMissing ⟨Nat.le_of_ble_eq_true rfl, Nat.le_of_ble_eq_true rfl⟩) [45, 46] rfl rfl 0 rfl rfl rfl hl.1 rfl (Nat.le_of_ble_eq_true rfl) ⟨Nat.le_refl 0, Nat.le_refl 0⟩ dX7_cell_16 (fun H locs hP hD hS => ?_)
          refine lv_if_eq (tgt := 25) hx hb dX7_cell_19 (by decide) (fun c1043 => ?_) (fun c1043 => ?_)
          · have he := ifp he c1043
            refine lv_aload_n hx hb dX7_cell_25 rfl (lv_at hl 0 rfl) ?_
            refine va_get (D := D) (ci := 7) (v := .ref (d 1)) (C := RX7) (T := TX7) (N := 9) hx hb hts iX7 hown hK hP 0 rfl rfl 7 (by decide) w1 (fun _ h9 => h9) rfl dX7_cell_26 ?_
            refine lv_iload_n hx hb dX7_cell_29 rfl (lv_at hl 1 rfl) ?_
            obtain ⟨h1044, he⟩ := grd_i he
            by_cases c1051 : p1 = 0
            · have he := ifp he c1051
              refine va_aldq hx hb hK hP 1 2 rfl rfl (ix_in h1044) dX7_cell_30 ?_
              refine W.eq (g2 := F0 mm 31 ls [.ref (t0 0)]) (by rw [c1051]; rfl) ?_
              refine lv_iload_n hx hb dX7_cell_31 rfl (lv_at hl 2 rfl) ?_
              refine lv_lload_n hx hb dX7_cell_32 rfl (lv_at hl 3 rfl) ?_
              obtain ⟨v1045, RO1046, h1047, he⟩ := bn2_i he
              obtain ⟨RO1048, e1049, he⟩ := lt_i he
              refine cVi (wf := (wMain k d a a2 a3 h c g t0 t1 t2 t3 b v o b2 P T K X Y C F z SO LE RO1048 hi)) (As := [.int p2, .long p3]) (rest := []) ⟨hx, hb, hml, hown, hts⟩ hK hA hP hD hS (mX5_put l D k t0 (so := (SO 0)) (le := (LE 0)) (ro_0 := (RO_0 0)) h1047) (cwV 2 hts gX7_cell_X5_put rfl rfl rfl kX5_put ⟨Nat.le_of_ble_eq_true rfl, Nat.le_of_ble_eq_true rfl⟩) [43, 44] rfl rfl (by rw [e1049]; rfl) [true, true, true, true, true, true, true, true, true, true, true, true, true, true, true, true, true, true, true, true, true, true, true, true, true, true, true, true, true, true, true, true, true, true, true, true, true, true, true, true, true, true, true, false, false, true, true, true, true, true, true] (by rw [e1049]; exact ⟨rfl, rfl, rfl, rfl, rfl, rfl, rfl, rfl, rfl, rfl, rfl, rfl, rfl, rfl, rfl, rfl, rfl, rfl, rfl, rfl, rfl, rfl, rfl, rfl, rfl, rfl, rfl, rfl, rfl, rfl, rfl, rfl, rfl, rfl, rfl, rfl, rfl, rfl, rfl, rfl, rfl, rfl, rfl, rfl, rfl, rfl, rfl, rfl, rfl, trivial⟩) 51 rfl (by decide +kernel) rfl 0 rfl rfl rfl hl.1 rfl (Nat.le_of_ble_eq_true rfl) ⟨Nat.le_refl 0, Nat.le_refl 0⟩ dX7_cell_33 (fun H locs hP hD hS => ?_)
              refine lv_if_eq (tgt := 43) hx hb dX7_cell_36 (by decide) (fun c1050 => ?_) (fun c1050 => ?_)
              · have he := ifp he c1050
                refine lv_bipush (v := (-12)) hx hb dX7_cell_43 (by decide) ?_
                obtain ⟨rfl, rfl⟩ := some2 he
                exact cRi hx hb hr hlk hK rfl hP hD hS dX7_cell_45
              · have he := ifn he c1050
                refine lv_iconst (v := 1) hx hb dX7_cell_39 (by decide) ?_
                refine lv_goto (tgt := 45) hx hb dX7_cell_40 (by decide) ?_
                obtain ⟨rfl, rfl⟩ := some2 he
                exact cRi hx hb hr hlk hK rfl hP hD hS dX7_cell_45
            · have he := ifn he c1051
              by_cases c1059 : p1 = 1
              · have he := ifp he c1059
                refine va_aldq hx hb hK hP 1 2 rfl rfl (ix_in h1044) dX7_cell_30 ?_
                refine W.eq (g2 := F0 mm 31 ls [.ref (t1 0)]) (by rw [c1059]; rfl) ?_
                refine lv_iload_n hx hb dX7_cell_31 rfl (lv_at hl 2 rfl) ?_
                refine lv_lload_n hx hb dX7_cell_32 rfl (lv_at hl 3 rfl) ?_
                obtain ⟨v1053, RO1054, h1055, he⟩ := bn2_i he
                obtain ⟨RO1056, e1057, he⟩ := lt_i he
                refine cVi (wf := (wMain k d a a2 a3 h c g t0 t1 t2 t3 b v o b2 P T K X Y C F z SO LE RO1056 hi)) (As := [.int p2, .long p3]) (rest := []) ⟨hx, hb, hml, hown, hts⟩ hK hA hP hD hS (mX5_put l D k t1 (so := (SO 1)) (le := (LE 1)) (ro_0 := (RO_0 1)) h1055) (cwV 2 hts gX7_cell_X5_put rfl rfl rfl kX5_put ⟨Nat.le_of_ble_eq_true rfl, Nat.le_of_ble_eq_true rfl⟩) [45, 46] rfl rfl (by rw [e1057]; rfl) [true, true, true, true, true, true, true, true, true, true, true, true, true, true, true, true, true, true, true, true, true, true, true, true, true, true, true, true, true, true, true, true, true, true, true, true, true, true, true, true, true, true, true, true, true, false, false, true, true, true, true] (by rw [e1057]; exact ⟨rfl, rfl, rfl, rfl, rfl, rfl, rfl, rfl, rfl, rfl, rfl, rfl, rfl, rfl, rfl, rfl, rfl, rfl, rfl, rfl, rfl, rfl, rfl, rfl, rfl, rfl, rfl, rfl, rfl, rfl, rfl, rfl, rfl, rfl, rfl, rfl, rfl, rfl, rfl, rfl, rfl, rfl, rfl, rfl, rfl, rfl, rfl, rfl, rfl, trivial⟩) 51 rfl (by decide +kernel) rfl 0 rfl rfl rfl hl.1 rfl (Nat.le_of_ble_eq_true rfl) ⟨Nat.le_refl 0, Nat.le_refl 0⟩ dX7_cell_33 (fun H locs hP hD hS => ?_)
                refine lv_if_eq (tgt := 43) hx hb dX7_cell_36 (by decide) (fun c1058 => ?_) (fun c1058 => ?_)
                · have he := ifp he c1058
                  refine lv_bipush (v := (-12)) hx hb dX7_cell_43 (by decide) ?_
                  obtain ⟨rfl, rfl⟩ := some2 he
                  exact cRi hx hb hr hlk hK rfl hP hD hS dX7_cell_45
                · have he := ifn he c1058
                  refine lv_iconst (v := 1) hx hb dX7_cell_39 (by decide) ?_
                  refine lv_goto (tgt := 45) hx hb dX7_cell_40 (by decide) ?_
                  obtain ⟨rfl, rfl⟩ := some2 he
                  exact cRi hx hb hr hlk hK rfl hP hD hS dX7_cell_45
              · have he := ifn he c1059
                by_cases c1067 : p1 = 2
                · have he := ifp he c1067
                  refine va_aldq hx hb hK hP 1 2 rfl rfl (ix_in h1044) dX7_cell_30 ?_
                  refine W.eq (g2 := F0 mm 31 ls [.ref (t2 0)]) (by rw [c1067]; rfl) ?_
                  refine lv_iload_n hx hb dX7_cell_31 rfl (lv_at hl 2 rfl) ?_
                  refine lv_lload_n hx hb dX7_cell_32 rfl (lv_at hl 3 rfl) ?_
                  obtain ⟨v1061, RO1062, h1063, he⟩ := bn2_i he
                  obtain ⟨RO1064, e1065, he⟩ := lt_i he
                  refine cVi (wf := (wMain k d a a2 a3 h c g t0 t1 t2 t3 b v o b2 P T K X Y C F z SO LE RO1064 hi)) (As := [.int p2, .long p3]) (rest := []) ⟨hx, hb, hml, hown, hts⟩ hK hA hP hD hS (mX5_put l D k t2 (so := (SO 2)) (le := (LE 2)) (ro_0 := (RO_0 2)) h1063) (cwV 2 hts gX7_cell_X5_put rfl rfl rfl kX5_put ⟨Nat.le_of_ble_eq_true rfl, Nat.le_of_ble_eq_true rfl⟩) [47, 48] rfl rfl (by rw [e1065]; rfl) [true, true, true, true, true, true, true, true, true, true, true, true, true, true, true, true, true, true, true, true, true, true, true, true, true, true, true, true, true, true, true, true, true, true, true, true, true, true, true, true, true, true, true, true, true, true, true, false, false, true, true] (by rw [e1065]; exact ⟨rfl, rfl, rfl, rfl, rfl, rfl, rfl, rfl, rfl, rfl, rfl, rfl, rfl, rfl, rfl, rfl, rfl, rfl, rfl, rfl, rfl, rfl, rfl, rfl, rfl, rfl, rfl, rfl, rfl, rfl, rfl, rfl, rfl, rfl, rfl, rfl, rfl, rfl, rfl, rfl, rfl, rfl, rfl, rfl, rfl, rfl, rfl, rfl, rfl, trivial⟩) 51 rfl (by decide +kernel) rfl 0 rfl rfl rfl hl.1 rfl (Nat.le_of_ble_eq_true rfl) ⟨Nat.le_refl 0, Nat.le_refl 0⟩ dX7_cell_33 (fun H locs hP hD hS => ?_)
                  refine lv_if_eq (tgt := 43) hx hb dX7_cell_36 (by decide) (fun c1066 => ?_) (fun c1066 => ?_)
                  · have he := ifp he c1066
                    refine lv_bipush (v := (-12)) hx hb dX7_cell_43 (by decide) ?_
                    obtain ⟨rfl, rfl⟩ := some2 he
                    exact cRi hx hb hr hlk hK rfl hP hD hS dX7_cell_45
                  · have he := ifn he c1066
                    refine lv_iconst (v := 1) hx hb dX7_cell_39 (by decide) ?_
                    refine lv_goto (tgt := 45) hx hb dX7_cell_40 (by decide) ?_
                    obtain ⟨rfl, rfl⟩ := some2 he
                    exact cRi hx hb hr hlk hK rfl hP hD hS dX7_cell_45
                · have he := ifn he c1067
                  have c1068 : p1 = 3 := ix4 h1044 c1051 c1059 c1067
                  refine va_aldq hx hb hK hP 1 2 rfl rfl (ix_in h1044) dX7_cell_30 ?_
                  refine W.eq (g2 := F0 mm 31 ls [.ref (t3 0)]) (by rw [c1068]; rfl) ?_
                  refine lv_iload_n hx hb dX7_cell_31 rfl (lv_at hl 2 rfl) ?_
                  refine lv_lload_n hx hb dX7_cell_32 rfl (lv_at hl 3 rfl) ?_
                  obtain ⟨v1069, RO1070, h1071, he⟩ := bn2_i he
                  obtain ⟨RO1072, e1073, he⟩ := lt_i he
                  refine cVi (wf := (wMain k d a a2 a3 h c g t0 t1 t2 t3 b v o b2 P T K X Y C F z SO LE RO1072 hi)) (As := [.int p2, .long p3]) (rest := []) ⟨hx, hb, hml, hown, hts⟩ hK hA hP hD hS (mX5_put l D k t3 (so := (SO 3)) (le := (LE 3)) (ro_0 := (RO_0 3)) h1071) (cwV 2 hts gX7_cell_X5_put rfl rfl rfl kX5_put ⟨Nat.le_of_ble_eq_true rfl, Nat.le_of_ble_eq_true rfl⟩) [49, 50] rfl rfl (by rw [e1073]; rfl) [true, true, true, true, true, true, true, true, true, true, true, true, true, true, true, true, true, true, true, true, true, true, true, true, true, true, true, true, true, true, true, true, true, true, true, true, true, true, true, true, true, true, true, true, true, true, true, true, true, false, false] (by rw [e1073]; exact ⟨rfl, rfl, rfl, rfl, rfl, rfl, rfl, rfl, rfl, rfl, rfl, rfl, rfl, rfl, rfl, rfl, rfl, rfl, rfl, rfl, rfl, rfl, rfl, rfl, rfl, rfl, rfl, rfl, rfl, rfl, rfl, rfl, rfl, rfl, rfl, rfl, rfl, rfl, rfl, rfl, rfl, rfl, rfl, rfl, rfl, rfl, rfl, rfl, rfl, trivial⟩) 51 rfl (by decide +kernel) rfl 0 rfl rfl rfl hl.1 rfl (Nat.le_of_ble_eq_true rfl) ⟨Nat.le_refl 0, Nat.le_refl 0⟩ dX7_cell_33 (fun H locs hP hD hS => ?_)
                  refine lv_if_eq (tgt := 43) hx hb dX7_cell_36 (by decide) (fun c1074 => ?_) (fun c1074 => ?_)
                  · have he := ifp he c1074
                    refine lv_bipush (v := (-12)) hx hb dX7_cell_43 (by decide) ?_
                    obtain ⟨rfl, rfl⟩ := some2 he
                    exact cRi hx hb hr hlk hK rfl hP hD hS dX7_cell_45
                  · have he := ifn he c1074
                    refine lv_iconst (v := 1) hx hb dX7_cell_39 (by decide) ?_
                    refine lv_goto (tgt := 45) hx hb dX7_cell_40 (by decide) ?_
                    obtain ⟨rfl, rfl⟩ := some2 he
                    exact cRi hx hb hr hlk hK rfl hP hD hS dX7_cell_45
          · have he := ifn he c1043
            refine lv_bipush (v := (-11)) hx hb dX7_cell_22 (by decide) ?_
            obtain ⟨rfl, rfl⟩ := some2 he
            exact cRi hx hb hr hlk hK rfl hP hD hS dX7_cell_24
        · have he := ifn he c1075
          by_cases c1111 : p1 = 2
          · have he := ifp he c1111
            refine va_aldq hx hb hK hP 1 2 rfl rfl (ix_in h1004) dX7_cell_15 ?_
            refine W.eq (g2 := F0 mm 16 ls [.ref (t2 0)]) (by rw [c1111]; rfl) ?_
            obtain ⟨v1077, h1078, he⟩ := bn1_i he
            refine cVir (As := []) (rest := []) ⟨hx, hb, hml, hown, hts⟩ hK hA hP hD hS (mX5_isMissing l D k t2 (so := (SO 2)) (le := (LE 2)) (ro := (RO_0 2)) h1078) (cwV 0 hts gX7_cell_X5_isMissing rfl rfl rfl kX5_isMissing ⟨Nat.le_of_ble_eq_true rfl, Nat.le_of_ble_eq_true rfl⟩) [47, 48] rfl rfl 0 rfl rfl rfl hl.1 rfl (Nat.le_of_ble_eq_true rfl) ⟨Nat.le_refl 0, Nat.le_refl 0⟩ dX7_cell_16 (fun H locs hP hD hS => ?_)
            refine lv_if_eq (tgt := 25) hx hb dX7_cell_19 (by decide) (fun c1079 => ?_) (fun c1079 => ?_)
            · have he := ifp he c1079
              refine lv_aload_n hx hb dX7_cell_25 rfl (lv_at hl 0 rfl) ?_
              refine va_get (D := D) (ci := 7) (v := .ref (d 1)) (C := RX7) (T := TX7) (N := 9) hx hb hts iX7 hown hK hP 0 rfl rfl 7 (by decide) w1 (fun _ h9 => h9) rfl dX7_cell_26 ?_
              refine lv_iload_n hx hb dX7_cell_29 rfl (lv_at hl 1 rfl) ?_
              obtain ⟨h1080, he⟩ := grd_i he
              by_cases c1087 : p1 = 0
              · have he := ifp he c1087
                refine va_aldq hx hb hK hP 1 2 rfl rfl (ix_in h1080) dX7_cell_30 ?_
                refine W.eq (g2 := F0 mm 31 ls [.ref (t0 0)]) (by rw [c1087]; rfl) ?_
                refine lv_iload_n hx hb dX7_cell_31 rfl (lv_at hl 2 rfl) ?_
                refine lv_lload_n hx hb dX7_cell_32 rfl (lv_at hl 3 rfl) ?_
                obtain ⟨v1081, RO1082, h1083, he⟩ := bn2_i he
                obtain ⟨RO1084, e1085, he⟩ := lt_i he
                refine cVi (wf := (wMain k d a a2 a3 h c g t0 t1 t2 t3 b v o b2 P T K X Y C F z SO LE RO1084 hi)) (As := [.int p2, .long p3]) (rest := []) ⟨hx, hb, hml, hown, hts⟩ hK hA hP hD hS (mX5_put l D k t0 (so := (SO 0)) (le := (LE 0)) (ro_0 := (RO_0 0)) h1083) (cwV 2 hts gX7_cell_X5_put rfl rfl rfl kX5_put ⟨Nat.le_of_ble_eq_true rfl, Nat.le_of_ble_eq_true rfl⟩) [43, 44] rfl rfl (by rw [e1085]; rfl) [true, true, true, true, true, true, true, true, true, true, true, true, true, true, true, true, true, true, true, true, true, true, true, true, true, true, true, true, true, true, true, true, true, true, true, true, true, true, true, true, true, true, true, false, false, true, true, true, true, true, true] (by rw [e1085]; exact ⟨rfl, rfl, rfl, rfl, rfl, rfl, rfl, rfl, rfl, rfl, rfl, rfl, rfl, rfl, rfl, rfl, rfl, rfl, rfl, rfl, rfl, rfl, rfl, rfl, rfl, rfl, rfl, rfl, rfl, rfl, rfl, rfl, rfl, rfl, rfl, rfl, rfl, rfl, rfl, rfl, rfl, rfl, rfl, rfl, rfl, rfl, rfl, rfl, rfl, trivial⟩) 51 rfl (by decide +kernel) rfl 0 rfl rfl rfl hl.1 rfl (Nat.le_of_ble_eq_true rfl) ⟨Nat.le_refl 0, Nat.le_refl 0⟩ dX7_cell_33 (fun H locs hP hD hS => ?_)
                refine lv_if_eq (tgt := 43) hx hb dX7_cell_36 (by decide) (fun c1086 => ?_) (fun c1086 => ?_)
                · have he := ifp he c1086
                  refine lv_bipush (v := (-12)) hx hb dX7_cell_43 (by decide) ?_
                  obtain ⟨rfl, rfl⟩ := some2 he
                  exact cRi hx hb hr hlk hK rfl hP hD hS dX7_cell_45
                · have he := ifn he c1086
                  refine lv_iconst (v := 1) hx hb dX7_cell_39 (by decide) ?_
                  refine lv_goto (tgt := 45) hx hb dX7_cell_40 (by decide) ?_
                  obtain ⟨rfl, rfl⟩ := some2 he
                  exact cRi hx hb hr hlk hK rfl hP hD hS dX7_cell_45
              · have he := ifn he c1087
                by_cases c1095 : p1 = 1
                · have he := ifp he c1095
                  refine va_aldq hx hb hK hP 1 2 rfl rfl (ix_in h1080) dX7_cell_30 ?_
                  refine W.eq (g2 := F0 mm 31 ls [.ref (t1 0)]) (by rw [c1095]; rfl) ?_
                  refine lv_iload_n hx hb dX7_cell_31 rfl (lv_at hl 2 rfl) ?_
                  refine lv_lload_n hx hb dX7_cell_32 rfl (lv_at hl 3 rfl) ?_
                  obtain ⟨v1089, RO1090, h1091, he⟩ := bn2_i he
                  obtain ⟨RO1092, e1093, he⟩ := lt_i he
                  refine cVi (wf := (wMain k d a a2 a3 h c g t0 t1 t2 t3 b v o b2 P T K X Y C F z SO LE RO1092 hi)) (As := [.int p2, .long p3]) (rest := []) ⟨hx, hb, hml, hown, hts⟩ hK hA hP hD hS (mX5_put l D k t1 (so := (SO 1)) (le := (LE 1)) (ro_0 := (RO_0 1)) h1091) (cwV 2 hts gX7_cell_X5_put rfl rfl rfl kX5_put ⟨Nat.le_of_ble_eq_true rfl, Nat.le_of_ble_eq_true rfl⟩) [45, 46] rfl rfl (by rw [e1093]; rfl) [true, true, true, true, true, true, true, true, true, true, true, true, true, true, true, true, true, true, true, true, true, true, true, true, true, true, true, true, true, true, true, true, true, true, true, true, true, true, true, true, true, true, true, true, true, false, false, true, true, true, true] (by rw [e1093]; exact ⟨rfl, rfl, rfl, rfl, rfl, rfl, rfl, rfl, rfl, rfl, rfl, rfl, rfl, rfl, rfl, rfl, rfl, rfl, rfl, rfl, rfl, rfl, rfl, rfl, rfl, rfl, rfl, rfl, rfl, rfl, rfl, rfl, rfl, rfl, rfl, rfl, rfl, rfl, rfl, rfl, rfl, rfl, rfl, rfl, rfl, rfl, rfl, rfl, rfl, trivial⟩) 51 rfl (by decide +kernel) rfl 0 rfl rfl rfl hl.1 rfl (Nat.le_of_ble_eq_true rfl) ⟨Nat.le_refl 0, Nat.le_refl 0⟩ dX7_cell_33 (fun H locs hP hD hS => ?_)
                  refine lv_if_eq (tgt := 43) hx hb dX7_cell_36 (by decide) (fun c1094 => ?_) (fun c1094 => ?_)
                  · have he := ifp he c1094
                    refine lv_bipush (v := (-12)) hx hb dX7_cell_43 (by decide) ?_
                    obtain ⟨rfl, rfl⟩ := some2 he
                    exact cRi hx hb hr hlk hK rfl hP hD hS dX7_cell_45
                  · have he := ifn he c1094
                    refine lv_iconst (v := 1) hx hb dX7_cell_39 (by decide) ?_
                    refine lv_goto (tgt := 45) hx hb dX7_cell_40 (by decide) ?_
                    obtain ⟨rfl, rfl⟩ := some2 he
                    exact cRi hx hb hr hlk hK rfl hP hD hS dX7_cell_45
                · have he := ifn he c1095
                  by_cases c1103 : p1 = 2
                  · have he := ifp he c1103
                    refine va_aldq hx hb hK hP 1 2 rfl rfl (ix_in h1080) dX7_cell_30 ?_
                    refine W.eq (g2 := F0 mm 31 ls [.ref (t2 0)]) (by rw [c1103]; rfl) ?_
                    refine lv_iload_n hx hb dX7_cell_31 rfl (lv_at hl 2 rfl) ?_
                    refine lv_lload_n hx hb dX7_cell_32 rfl (lv_at hl 3 rfl) ?_
                    obtain ⟨v1097, RO1098, h1099, he⟩ := bn2_i he
                    obtain ⟨RO1100, e1101, he⟩ := lt_i he
                    refine cVi (wf := (wMain k d a a2 a3 h c g t0 t1 t2 t3 b v o b2 P T K X Y C F z SO LE RO1100 hi)) (As := [.int p2, .long p3]) (rest := []) ⟨hx, hb, hml, hown, hts⟩ hK hA hP hD hS (mX5_put l D k t2 (so := (SO 2)) (le := (LE 2)) (ro_0 := (RO_0 2)) h1099) (cwV 2 hts gX7_cell_X5_put rfl rfl rfl kX5_put ⟨Nat.le_of_ble_eq_true rfl, Nat.le_of_ble_eq_true rfl⟩) [47, 48] rfl rfl (by rw [e1101]; rfl) [true, true, true, true, true, true, true, true, true, true, true, true, true, true, true, true, true, true, true, true, true, true, true, true, true, true, true, true, true, true, true, true, true, true, true, true, true, true, true, true, true, true, true, true, true, true, true, false, false, true, true] (by rw [e1101]; exact ⟨rfl, rfl, rfl, rfl, rfl, rfl, rfl, rfl, rfl, rfl, rfl, rfl, rfl, rfl, rfl, rfl, rfl, rfl, rfl, rfl, rfl, rfl, rfl, rfl, rfl, rfl, rfl, rfl, rfl, rfl, rfl, rfl, rfl, rfl, rfl, rfl, rfl, rfl, rfl, rfl, rfl, rfl, rfl, rfl, rfl, rfl, rfl, rfl, rfl, trivial⟩) 51 rfl (by decide +kernel) rfl 0 rfl rfl rfl hl.1 rfl (Nat.le_of_ble_eq_true rfl) ⟨Nat.le_refl 0, Nat.le_refl 0⟩ dX7_cell_33 (fun H locs hP hD hS => ?_)
                    refine lv_if_eq (tgt := 43) hx hb dX7_cell_36 (by decide) (fun c1102 => ?_) (fun c1102 => ?_)
                    · have he := ifp he c1102
                      refine lv_bipush (v := (-12)) hx hb dX7_cell_43 (by decide) ?_
                      obtain ⟨rfl, rfl⟩ := some2 he
                      exact cRi hx hb hr hlk hK rfl hP hD hS dX7_cell_45
                    · have he := ifn he c1102
                      refine lv_iconst (v := 1) hx hb dX7_cell_39 (by decide) ?_
                      refine lv_goto (tgt := 45) hx hb dX7_cell_40 (by decide) ?_
                      obtain ⟨rfl, rfl⟩ := some2 he
                      exact cRi hx hb hr hlk hK rfl hP hD hS dX7_cell_45
                  · have he := ifn he c1103
                    have c1104 : p1 = 3 := ix4 h1080 c1087 c1095 c1103
                    refine va_aldq hx hb hK hP 1 2 rfl rfl (ix_in h1080) dX7_cell_30 ?_
                    refine W.eq (g2 := F0 mm 31 ls [.ref (t3 0)]) (by rw [c1104]; rfl) ?_
                    refine lv_iload_n hx hb dX7_cell_31 rfl (lv_at hl 2 rfl) ?_
                    refine lv_lload_n hx hb dX7_cell_32 rfl (lv_at hl 3 rfl) ?_
                    obtain ⟨v1105, RO1106, h1107, he⟩ := bn2_i he
                    obtain ⟨RO1108, e1109, he⟩ := lt_i he
                    refine cVi (wf := (wMain k d a a2 a3 h c g t0 t1 t2 t3 b v o b2 P T K X Y C F z SO LE RO1108 hi)) (As := [.int p2, .long p3]) (rest := []) ⟨hx, hb, hml, hown, hts⟩ hK hA hP hD hS (mX5_put l D k t3 (so := (SO 3)) (le := (LE 3)) (ro_0 := (RO_0 3)) h1107) (cwV 2 hts gX7_cell_X5_put rfl rfl rfl kX5_put ⟨Nat.le_of_ble_eq_true rfl, Nat.le_of_ble_eq_true rfl⟩) [49, 50] rfl rfl (by rw [e1109]; rfl) [true, true, true, true, true, true, true, true, true, true, true, true, true, true, true, true, true, true, true, true, true, true, true, true, true, true, true, true, true, true, true, true, true, true, true, true, true, true, true, true, true, true, true, true, true, true, true, true, true, false, false] (by rw [e1109]; exact ⟨rfl, rfl, rfl, rfl, rfl, rfl, rfl, rfl, rfl, rfl, rfl, rfl, rfl, rfl, rfl, rfl, rfl, rfl, rfl, rfl, rfl, rfl, rfl, rfl, rfl, rfl, rfl, rfl, rfl, rfl, rfl, rfl, rfl, rfl, rfl, rfl, rfl, rfl, rfl, rfl, rfl, rfl, rfl, rfl, rfl, rfl, rfl, rfl, rfl, trivial⟩) 51 rfl (by decide +kernel) rfl 0 rfl rfl rfl hl.1 rfl (Nat.le_of_ble_eq_true rfl) ⟨Nat.le_refl 0, Nat.le_refl 0⟩ dX7_cell_33 (fun H locs hP hD hS => ?_)
                    refine lv_if_eq (tgt := 43) hx hb dX7_cell_36 (by decide) (fun c1110 => ?_) (fun c1110 => ?_)
                    · have he := ifp he c1110
                      refine lv_bipush (v := (-12)) hx hb dX7_cell_43 (by decide) ?_
                      obtain ⟨rfl, rfl⟩ := some2 he
                      exact cRi hx hb hr hlk hK rfl hP hD hS dX7_cell_45
                    · have he := ifn he c1110
                      refine lv_iconst (v := 1) hx hb dX7_cell_39 (by decide) ?_
                      refine lv_goto (tgt := 45) hx hb dX7_cell_40 (by decide) ?_
                      obtain ⟨rfl, rfl⟩ := some2 he
                      exact cRi hx hb hr hlk hK rfl hP hD hS dX7_cell_45
            · have he := ifn he c1079
              refine lv_bipush (v := (-11)) hx hb dX7_cell_22 (by decide) ?_
              obtain ⟨rfl, rfl⟩ := some2 he
              exact cRi hx hb hr hlk hK rfl hP hD hS dX7_cell_24
          · have he := ifn he c1111
            have c1112 : p1 = 3 := ix4 h1004 c1039 c1075 c1111
            refine va_aldq hx hb hK hP 1 2 rfl rfl (ix_in h1004) dX7_cell_15 ?_
            refine W.eq (g2 := F0 mm 16 ls [.ref (t3 0)]) (by rw [c1112]; rfl) ?_
            obtain ⟨v1113, h1114, he⟩ := bn1_i he
            refine cVir (As := []) (rest := []) ⟨hx, hb, hml, hown, hts⟩ hK hA hP hD hS (mX5_isMissing l D k t3 (so := (SO 3)) (le := (LE 3)) (ro := (RO_0 3)) h1114) (cwV 0 hts gX7_cell_X5_isMissing rfl rfl rfl kX5_isMissing ⟨Nat.le_of_ble_eq_true rfl, Nat.le_of_ble_eq_true rfl⟩) [49, 50] rfl rfl 0 rfl rfl rfl hl.1 rfl (Nat.le_of_ble_eq_true rfl) ⟨Nat.le_refl 0, Nat.le_refl 0⟩ dX7_cell_16 (fun H locs hP hD hS => ?_)
            refine lv_if_eq (tgt := 25) hx hb dX7_cell_19 (by decide) (fun c1115 => ?_) (fun c1115 => ?_)
            · have he := ifp he c1115
              refine lv_aload_n hx hb dX7_cell_25 rfl (lv_at hl 0 rfl) ?_
              refine va_get (D := D) (ci := 7) (v := .ref (d 1)) (C := RX7) (T := TX7) (N := 9) hx hb hts iX7 hown hK hP 0 rfl rfl 7 (by decide) w1 (fun _ h9 => h9) rfl dX7_cell_26 ?_
              refine lv_iload_n hx hb dX7_cell_29 rfl (lv_at hl 1 rfl) ?_
              obtain ⟨h1116, he⟩ := grd_i he
              by_cases c1123 : p1 = 0
              · have he := ifp he c1123
                refine va_aldq hx hb hK hP 1 2 rfl rfl (ix_in h1116) dX7_cell_30 ?_
                refine W.eq (g2 := F0 mm 31 ls [.ref (t0 0)]) (by rw [c1123]; rfl) ?_
                refine lv_iload_n hx hb dX7_cell_31 rfl (lv_at hl 2 rfl) ?_
                refine lv_lload_n hx hb dX7_cell_32 rfl (lv_at hl 3 rfl) ?_
                obtain ⟨v1117, RO1118, h1119, he⟩ := bn2_i he
                obtain ⟨RO1120, e1121, he⟩ := lt_i he
                refine cVi (wf := (wMain k d a a2 a3 h c g t0 t1 t2 t3 b v o b2 P T K X Y C F z SO LE RO1120 hi)) (As := [.int p2, .long p3]) (rest := []) ⟨hx, hb, hml, hown, hts⟩ hK hA hP hD hS (mX5_put l D k t0 (so := (SO 0)) (le := (LE 0)) (ro_0 := (RO_0 0)) h1119) (cwV 2 hts gX7_cell_X5_put rfl rfl rfl kX5_put ⟨Nat.le_of_ble_eq_true rfl, Nat.le_of_ble_eq_true rfl⟩) [43, 44] rfl rfl (by rw [e1121]; rfl) [true, true, true, true, true, true, true, true, true, true, true, true, true, true, true, true, true, true, true, true, true, true, true, true, true, true, true, true, true, true, true, true, true, true, true, true, true, true, true, true, true, true, true, false, false, true, true, true, true, true, true] (by rw [e1121]; exact ⟨rfl, rfl, rfl, rfl, rfl, rfl, rfl, rfl, rfl, rfl, rfl, rfl, rfl, rfl, rfl, rfl, rfl, rfl, rfl, rfl, rfl, rfl, rfl, rfl, rfl, rfl, rfl, rfl, rfl, rfl, rfl, rfl, rfl, rfl, rfl, rfl, rfl, rfl, rfl, rfl, rfl, rfl, rfl, rfl, rfl, rfl, rfl, rfl, rfl, trivial⟩) 51 rfl (by decide +kernel) rfl 0 rfl rfl rfl hl.1 rfl (Nat.le_of_ble_eq_true rfl) ⟨Nat.le_refl 0, Nat.le_refl 0⟩ dX7_cell_33 (fun H locs hP hD hS => ?_)
                refine lv_if_eq (tgt := 43) hx hb dX7_cell_36 (by decide) (fun c1122 => ?_) (fun c1122 => ?_)
                · have he := ifp he c1122
                  refine lv_bipush (v := (-12)) hx hb dX7_cell_43 (by decide) ?_
                  obtain ⟨rfl, rfl⟩ := some2 he
                  exact cRi hx hb hr hlk hK rfl hP hD hS dX7_cell_45
                · have he := ifn he c1122
                  refine lv_iconst (v := 1) hx hb dX7_cell_39 (by decide) ?_
                  refine lv_goto (tgt := 45) hx hb dX7_cell_40 (by decide) ?_
                  obtain ⟨rfl, rfl⟩ := some2 he
                  exact cRi hx hb hr hlk hK rfl hP hD hS dX7_cell_45
              · have he := ifn he c1123
                by_cases c1131 : p1 = 1
                · have he := ifp he c1131
                  refine va_aldq hx hb hK hP 1 2 rfl rfl (ix_in h1116) dX7_cell_30 ?_
                  refine W.eq (g2 := F0 mm 31 ls [.ref (t1 0)]) (by rw [c1131]; rfl) ?_
                  refine lv_iload_n hx hb dX7_cell_31 rfl (lv_at hl 2 rfl) ?_
                  refine lv_lload_n hx hb dX7_cell_32 rfl (lv_at hl 3 rfl) ?_
                  obtain ⟨v1125, RO1126, h1127, he⟩ := bn2_i he
                  obtain ⟨RO1128, e1129, he⟩ := lt_i he
                  refine cVi (wf := (wMain k d a a2 a3 h c g t0 t1 t2 t3 b v o b2 P T K X Y C F z SO LE RO1128 hi)) (As := [.int p2, .long p3]) (rest := []) ⟨hx, hb, hml, hown, hts⟩ hK hA hP hD hS (mX5_put l D k t1 (so := (SO 1)) (le := (LE 1)) (ro_0 := (RO_0 1)) h1127) (cwV 2 hts gX7_cell_X5_put rfl rfl rfl kX5_put ⟨Nat.le_of_ble_eq_true rfl, Nat.le_of_ble_eq_true rfl⟩) [45, 46] rfl rfl (by rw [e1129]; rfl) [true, true, true, true, true, true, true, true, true, true, true, true, true, true, true, true, true, true, true, true, true, true, true, true, true, true, true, true, true, true, true, true, true, true, true, true, true, true, true, true, true, true, true, true, true, false, false, true, true, true, true] (by rw [e1129]; exact ⟨rfl, rfl, rfl, rfl, rfl, rfl, rfl, rfl, rfl, rfl, rfl, rfl, rfl, rfl, rfl, rfl, rfl, rfl, rfl, rfl, rfl, rfl, rfl, rfl, rfl, rfl, rfl, rfl, rfl, rfl, rfl, rfl, rfl, rfl, rfl, rfl, rfl, rfl, rfl, rfl, rfl, rfl, rfl, rfl, rfl, rfl, rfl, rfl, rfl, trivial⟩) 51 rfl (by decide +kernel) rfl 0 rfl rfl rfl hl.1 rfl (Nat.le_of_ble_eq_true rfl) ⟨Nat.le_refl 0, Nat.le_refl 0⟩ dX7_cell_33 (fun H locs hP hD hS => ?_)
                  refine lv_if_eq (tgt := 43) hx hb dX7_cell_36 (by decide) (fun c1130 => ?_) (fun c1130 => ?_)
                  · have he := ifp he c1130
                    refine lv_bipush (v := (-12)) hx hb dX7_cell_43 (by decide) ?_
                    obtain ⟨rfl, rfl⟩ := some2 he
                    exact cRi hx hb hr hlk hK rfl hP hD hS dX7_cell_45
                  · have he := ifn he c1130
                    refine lv_iconst (v := 1) hx hb dX7_cell_39 (by decide) ?_
                    refine lv_goto (tgt := 45) hx hb dX7_cell_40 (by decide) ?_
                    obtain ⟨rfl, rfl⟩ := some2 he
                    exact cRi hx hb hr hlk hK rfl hP hD hS dX7_cell_45
                · have he := ifn he c1131
                  by_cases c1139 : p1 = 2
                  · have he := ifp he c1139
                    refine va_aldq hx hb hK hP 1 2 rfl rfl (ix_in h1116) dX7_cell_30 ?_
                    refine W.eq (g2 := F0 mm 31 ls [.ref (t2 0)]) (by rw [c1139]; rfl) ?_
                    refine lv_iload_n hx hb dX7_cell_31 rfl (lv_at hl 2 rfl) ?_
                    refine lv_lload_n hx hb dX7_cell_32 rfl (lv_at hl 3 rfl) ?_
                    obtain ⟨v1133, RO1134, h1135, he⟩ := bn2_i he
                    obtain ⟨RO1136, e1137, he⟩ := lt_i he
                    refine cVi (wf := (wMain k d a a2 a3 h c g t0 t1 t2 t3 b v o b2 P T K X Y C F z SO LE RO1136 hi)) (As := [.int p2, .long p3]) (rest := []) ⟨hx, hb, hml, hown, hts⟩ hK hA hP hD hS (mX5_put l D k t2 (so := (SO 2)) (le := (LE 2)) (ro_0 := (RO_0 2)) h1135) (cwV 2 hts gX7_cell_X5_put rfl rfl rfl kX5_put ⟨Nat.le_of_ble_eq_true rfl, Nat.le_of_ble_eq_true rfl⟩) [47, 48] rfl rfl (by rw [e1137]; rfl) [true, true, true, true, true, true, true, true, true, true, true, true, true, true, true, true, true, true, true, true, true, true, true, true, true, true, true, true, true, true, true, true, true, true, true, true, true, true, true, true, true, true, true, true, true, true, true, false, false, true, true] (by rw [e1137]; exact ⟨rfl, rfl, rfl, rfl, rfl, rfl, rfl, rfl, rfl, rfl, rfl, rfl, rfl, rfl, rfl, rfl, rfl, rfl, rfl, rfl, rfl, rfl, rfl, rfl, rfl, rfl, rfl, rfl, rfl, rfl, rfl, rfl, rfl, rfl, rfl, rfl, rfl, rfl, rfl, rfl, rfl, rfl, rfl, rfl, rfl, rfl, rfl, rfl, rfl, trivial⟩) 51 rfl (by decide +kernel) rfl 0 rfl rfl rfl hl.1 rfl (Nat.le_of_ble_eq_true rfl) ⟨Nat.le_refl 0, Nat.le_refl 0⟩ dX7_cell_33 (fun H locs hP hD hS => ?_)
                    refine lv_if_eq (tgt := 43) hx hb dX7_cell_36 (by decide) (fun c1138 => ?_) (fun c1138 => ?_)
                    · have he := ifp he c1138
                      refine lv_bipush (v := (-12)) hx hb dX7_cell_43 (by decide) ?_
                      obtain ⟨rfl, rfl⟩ := some2 he
                      exact cRi hx hb hr hlk hK rfl hP hD hS dX7_cell_45
                    · have he := ifn he c1138
                      refine lv_iconst (v := 1) hx hb dX7_cell_39 (by decide) ?_
                      refine lv_goto (tgt := 45) hx hb dX7_cell_40 (by decide) ?_
                      obtain ⟨rfl, rfl⟩ := some2 he
                      exact cRi hx hb hr hlk hK rfl hP hD hS dX7_cell_45
                  · have he := ifn he c1139
                    have c1140 : p1 = 3 := ix4 h1116 c1123 c1131 c1139
                    refine va_aldq hx hb hK hP 1 2 rfl rfl (ix_in h1116) dX7_cell_30 ?_
                    refine W.eq (g2 := F0 mm 31 ls [.ref (t3 0)]) (by rw [c1140]; rfl) ?_
                    refine lv_iload_n hx hb dX7_cell_31 rfl (lv_at hl 2 rfl) ?_
                    refine lv_lload_n hx hb dX7_cell_32 rfl (lv_at hl 3 rfl) ?_
                    obtain ⟨v1141, RO1142, h1143, he⟩ := bn2_i he
                    obtain ⟨RO1144, e1145, he⟩ := lt_i he
                    refine cVi (wf := (wMain k d a a2 a3 h c g t0 t1 t2 t3 b v o b2 P T K X Y C F z SO LE RO1144 hi)) (As := [.int p2, .long p3]) (rest := []) ⟨hx, hb, hml, hown, hts⟩ hK hA hP hD hS (mX5_put l D k t3 (so := (SO 3)) (le := (LE 3)) (ro_0 := (RO_0 3)) h1143) (cwV 2 hts gX7_cell_X5_put rfl rfl rfl kX5_put ⟨Nat.le_of_ble_eq_true rfl, Nat.le_of_ble_eq_true rfl⟩) [49, 50] rfl rfl (by rw [e1145]; rfl) [true, true, true, true, true, true, true, true, true, true, true, true, true, true, true, true, true, true, true, true, true, true, true, true, true, true, true, true, true, true, true, true, true, true, true, true, true, true, true, true, true, true, true, true, true, true, true, true, true, false, false] (by rw [e1145]; exact ⟨rfl, rfl, rfl, rfl, rfl, rfl, rfl, rfl, rfl, rfl, rfl, rfl, rfl, rfl, rfl, rfl, rfl, rfl, rfl, rfl, rfl, rfl, rfl, rfl, rfl, rfl, rfl, rfl, rfl, rfl, rfl, rfl, rfl, rfl, rfl, rfl, rfl, rfl, rfl, rfl, rfl, rfl, rfl, rfl, rfl, rfl, rfl, rfl, rfl, trivial⟩) 51 rfl (by decide +kernel) rfl 0 rfl rfl rfl hl.1 rfl (Nat.le_of_ble_eq_true rfl) ⟨Nat.le_refl 0, Nat.le_refl 0⟩ dX7_cell_33 (fun H locs hP hD hS => ?_)
                    refine lv_if_eq (tgt := 43) hx hb dX7_cell_36 (by decide) (fun c1146 => ?_) (fun c1146 => ?_)
                    · have he := ifp he c1146
                      refine lv_bipush (v := (-12)) hx hb dX7_cell_43 (by decide) ?_
                      obtain ⟨rfl, rfl⟩ := some2 he
                      exact cRi hx hb hr hlk hK rfl hP hD hS dX7_cell_45
                    · have he := ifn he c1146
                      refine lv_iconst (v := 1) hx hb dX7_cell_39 (by decide) ?_
                      refine lv_goto (tgt := 45) hx hb dX7_cell_40 (by decide) ?_
                      obtain ⟨rfl, rfl⟩ := some2 he
                      exact cRi hx hb hr hlk hK rfl hP hD hS dX7_cell_45
            · have he := ifn he c1115
              refine lv_bipush (v := (-11)) hx hb dX7_cell_22 (by decide) ?_
              obtain ⟨rfl, rfl⟩ := some2 he
              exact cRi hx hb hr hlk hK rfl hP hD hS dX7_cell_24
    · have he := ifp he c1003
      refine lv_bipush (v := (-2)) hx hb dX7_cell_7 (by decide) ?_
      obtain ⟨rfl, rfl⟩ := some2 he
      exact cRi hx hb hr hlk hK rfl hP hD hS dX7_cell_9
  exact key ss.heap [] rfl rfl hP hS
theorem kX7_item : yX7_item.cls = RX7 ∧ yX7_item.cls ≠ "java/lang/invoke/MethodHandle" ∧ yX7_item.cls ≠ "java/lang/invoke/VarHandle" ∧ (parseMethodDescriptor yX7_item.desc).map (fun d => d.parameters.length) = some 2 := by decide +kernel
set_option maxRecDepth 100000 in
set_option maxHeartbeats 4000000 in
theorem mX7_item (l : Launch) (D : va_G) (k : Nat → ClassId) (d : Nat → Nat) (a : Nat → Nat) (a2 : Nat → Nat) (a3 : Nat → Nat) (h : Nat → Nat) (c : Nat → Nat) (g : Nat → Nat) (t0 : Nat → Nat) (t1 : Nat → Nat) (t2 : Nat → Nat) (t3 : Nat → Nat) (b : Nat) (v : Nat) (o : Nat) (b2 : Nat) {P : Nat → Nat → Int32} {T : Nat → Nat → Int32} {K : Nat → Nat → Int32} {X : Nat → Int32} {Y : Nat → Int32} {C : Nat → Int32} {F : Nat → Int64} {z : Int32} {SO : Nat → Int32} {LE : Nat → Int32} {RO : Nat → Nat → Int64} {hi : Int32} {p1 : Int32} {p2 : Int32} {r : Int64}  (he : xX7_item LE RO p1 p2 = some r) : CtL l D k yX7_item wsX7_item ({ frames := 2, cells := 0, slots := 0, locals := 42 } : Room) [.ref (d 0), .int p1, .int p2] (wMain k d a a2 a3 h c g t0 t1 t2 t3 b v o b2 P T K X Y C F z SO LE RO hi) r (wMain k d a a2 a3 h c g t0 t1 t2 t3 b v o b2 P T K X Y C F z SO LE RO hi) := by
  intro sz9
  refine cSt (lv := [(0, .ref (d 0)), (1, .int p1), (2, .int p2)]) (own := RX7) (cc := cX7_item) (nL := 3) (ret := (some .long)) (by decide +kernel) rfl rfl (Nat.le_of_ble_eq_true rfl) rfl ?_
  intro pp ee ss mm bl me co hsz hC0 hP hD hS ls hl
  subst hsz
  obtain ⟨hx, hb, hr, hml, hown, hts, hK, hlk⟩ := hC0
  have hA : ∀ q, ss.heap.size ≤ q → va_A (wMain k d a a2 a3 h c g t0 t1 t2 t3 b v o b2 P T K X Y C F z SO LE RO hi) ss.heap.size q := fun q h => Or.inr h
  have w2 := hts (.constantLong RX7 129 (-4611686018427387904)) (List.mem_of_getElem? (i := 2) rfl)
  have iX7 : ∀ w ∈ wsX70, w ∈ wsX7_item := fun _ h => List.mem_cons_of_mem _ (List.mem_append_left _ (List.mem_append_right _ h))
  have w1 := hts (.fieldLink RX7 56 "DeadListPool" "sheets" "[LDeadListPool$Sheet;") (List.mem_of_getElem? (i := 1) rfl)
  have hS0 := hS
  have key : ∀ (H : Heap) (locs : List Loc), H = ss.heap → locs = [] → va_P D vwCl (wMain k d a a2 a3 h c g t0 t1 t2 t3 b v o b2 P T K X Y C F z SO LE RO hi) H → va_S (va_A (wMain k d a a2 a3 h c g t0 t1 t2 t3 b v o b2 P T K X Y C F z SO LE RO hi) ss.heap.size) ss.heap H locs → W pp l ee ({ frames := 2, cells := 0, slots := 0, locals := 42 } : Room) ss mm ([.ref (d 0), .int p1, .int p2] : List Value).toArray bl me co H locs 0 0 (MQ bl (cQl D k (wMain k d a a2 a3 h c g t0 t1 t2 t3 b v o b2 P T K X Y C F z SO LE RO hi) ss.heap.size r (wMain k d a a2 a3 h c g t0 t1 t2 t3 b v o b2 P T K X Y C F z SO LE RO hi)) ([.ref (d 0), .int p1, .int p2] : List Value).toArray ss 0 0 (va_A (wMain k d a a2 a3 h c g t0 t1 t2 t3 b v o b2 P T K X Y C F z SO LE RO hi) ss.heap.size)) (F0 mm 0 ls []) := by
    intro H locs _ _ hP hS
    refine lv_iload_n hx hb dX7_item_0 rfl (lv_at hl 1 rfl) ?_
    obtain ⟨v1001, h1002, he⟩ := bn1_i he
    refine cSi (rest := []) ⟨hx, hb, hml, hown, hts⟩ hK hA hP hD hS (mX7_isSheet l D k h1002) (cwS 1 hts gX7_item_X7_isSheet rfl rfl rfl kX7_isSheet ⟨Nat.le_of_ble_eq_true rfl, Nat.le_of_ble_eq_true rfl⟩) rfl hl.1 rfl (Nat.le_of_ble_eq_true rfl) ⟨Nat.le_refl 0, Nat.le_refl 0⟩ dX7_item_1 (fun H locs hP hD hS => ?_)
    refine lv_if_eq (tgt := 33) hx hb dX7_item_4 (by decide) (fun c1003 => ?_) (fun c1003 => ?_)
    · have he := ifp he c1003
      refine lv_ldc2 hx hb hown w2 dX7_item_33 ?_
      obtain rfl := some1 he
      exact cRl hx hb hr hlk hK hP hD hS dX7_item_36
    · have he := ifn he c1003
      refine lv_aload_n hx hb dX7_item_7 rfl (lv_at hl 0 rfl) ?_
      refine va_get (D := D) (ci := 7) (v := .ref (d 1)) (C := RX7) (T := TX7) (N := 9) hx hb hts iX7 hown hK hP 0 rfl rfl 7 (by decide) w1 (fun _ h9 => h9) rfl dX7_item_8 ?_
      refine lv_iload_n hx hb dX7_item_11 rfl (lv_at hl 1 rfl) ?_
      obtain ⟨h1004, he⟩ := grd_i he
      by_cases c1023 : p1 = 0
      · have he := ifp he c1023
        refine va_aldq hx hb hK hP 1 2 rfl rfl (ix_in h1004) dX7_item_12 ?_
        refine W.eq (g2 := F0 mm 13 ls [.ref (t0 0)]) (by rw [c1023]; rfl) ?_
        refine lv_iload_n hx hb dX7_item_13 rfl (lv_at hl 2 rfl) ?_
        obtain ⟨v1005, h1006, he⟩ := bn1_i he
        refine cVir (As := [.int p2]) (rest := []) ⟨hx, hb, hml, hown, hts⟩ hK hA hP hD hS (mX5_has l D k t0 (so := (SO 0)) (le := (LE 0)) (ro := (RO 0)) h1006) (cwV 1 hts gX7_item_X5_has rfl rfl rfl kX5_has ⟨Nat.le_of_ble_eq_true rfl, Nat.le_of_ble_eq_true rfl⟩) [43, 44] rfl rfl 0 rfl rfl rfl hl.1 rfl (Nat.le_of_ble_eq_true rfl) ⟨Nat.le_refl 0, Nat.le_refl 0⟩ dX7_item_14 (fun H locs hP hD hS => ?_)
        refine lv_if_eq (tgt := 33) hx hb dX7_item_17 (by decide) (fun c1007 => ?_) (fun c1007 => ?_)
        · have he := ifp he c1007
          refine lv_ldc2 hx hb hown w2 dX7_item_33 ?_
          obtain rfl := some1 he
          exact cRl hx hb hr hlk hK hP hD hS dX7_item_36
        · have he := ifn he c1007
          refine lv_aload_n hx hb dX7_item_20 rfl (lv_at hl 0 rfl) ?_
          refine va_get (D := D) (ci := 7) (v := .ref (d 1)) (C := RX7) (T := TX7) (N := 9) hx hb hts iX7 hown hK hP 0 rfl rfl 7 (by decide) w1 (fun _ h9 => h9) rfl dX7_item_21 ?_
          refine lv_iload_n hx hb dX7_item_24 rfl (lv_at hl 1 rfl) ?_
          obtain ⟨h1008, he⟩ := grd_i he
          by_cases c1011 : p1 = 0
          · have he := ifp he c1011
            refine va_aldq hx hb hK hP 1 2 rfl rfl (ix_in h1008) dX7_item_25 ?_
            refine W.eq (g2 := F0 mm 26 ls [.ref (t0 0)]) (by rw [c1011]; rfl) ?_
            refine lv_iload_n hx hb dX7_item_26 rfl (lv_at hl 2 rfl) ?_
            obtain ⟨v1009, h1010, he⟩ := bn1_i he
            refine cVlr (As := [.int p2]) (rest := []) ⟨hx, hb, hml, hown, hts⟩ hK hA hP hD hS (mX5_at l D k t0 (so := (SO 0)) (le := (LE 0)) (ro := (RO 0)) h1010) (cwV 1 hts gX7_item_X5_at rfl rfl rfl kX5_at ⟨Nat.le_of_ble_eq_true rfl, Nat.le_of_ble_eq_true rfl⟩) [43, 44] rfl rfl 0 rfl rfl rfl hl.1 rfl (Nat.le_of_ble_eq_true rfl) ⟨Nat.le_refl 0, Nat.le_refl 0⟩ dX7_item_27 (fun H locs hP hD hS => ?_)
            refine lv_goto (tgt := 36) hx hb dX7_item_30 (by decide) ?_
            obtain rfl := some1 he
            exact cRl hx hb hr hlk hK hP hD hS dX7_item_36
          · have he := ifn he c1011
            by_cases c1015 : p1 = 1
            · have he := ifp he c1015
              refine va_aldq hx hb hK hP 1 2 rfl rfl (ix_in h1008) dX7_item_25 ?_
              refine W.eq (g2 := F0 mm 26 ls [.ref (t1 0)]) (by rw [c1015]; rfl) ?_
              refine lv_iload_n hx hb dX7_item_26 rfl (lv_at hl 2 rfl) ?_
              obtain ⟨v1013, h1014, he⟩ := bn1_i he
              refine cVlr (As := [.int p2]) (rest := []) ⟨hx, hb, hml, hown, hts⟩ hK hA hP hD hS (mX5_at l D k t1 (so := (SO 1)) (le := (LE 1)) (ro := (RO 1)) h1014) (cwV 1 hts gX7_item_X5_at rfl rfl rfl kX5_at ⟨Nat.le_of_ble_eq_true rfl, Nat.le_of_ble_eq_true rfl⟩) [45, 46] rfl rfl 0 rfl rfl rfl hl.1 rfl (Nat.le_of_ble_eq_true rfl) ⟨Nat.le_refl 0, Nat.le_refl 0⟩ dX7_item_27 (fun H locs hP hD hS => ?_)
              refine lv_goto (tgt := 36) hx hb dX7_item_30 (by decide) ?_
              obtain rfl := some1 he
              exact cRl hx hb hr hlk hK hP hD hS dX7_item_36
            · have he := ifn he c1015
              by_cases c1019 : p1 = 2
              · have he := ifp he c1019
                refine va_aldq hx hb hK hP 1 2 rfl rfl (ix_in h1008) dX7_item_25 ?_
                refine W.eq (g2 := F0 mm 26 ls [.ref (t2 0)]) (by rw [c1019]; rfl) ?_
                refine lv_iload_n hx hb dX7_item_26 rfl (lv_at hl 2 rfl) ?_
                obtain ⟨v1017, h1018, he⟩ := bn1_i he
                refine cVlr (As := [.int p2]) (rest := []) ⟨hx, hb, hml, hown, hts⟩ hK hA hP hD hS (mX5_at l D k t2 (so := (SO 2)) (le := (LE 2)) (ro := (RO 2)) h1018) (cwV 1 hts gX7_item_X5_at rfl rfl rfl kX5_at ⟨Nat.le_of_ble_eq_true rfl, Nat.le_of_ble_eq_true rfl⟩) [47, 48] rfl rfl 0 rfl rfl rfl hl.1 rfl (Nat.le_of_ble_eq_true rfl) ⟨Nat.le_refl 0, Nat.le_refl 0⟩ dX7_item_27 (fun H locs hP hD hS => ?_)
                refine lv_goto (tgt := 36) hx hb dX7_item_30 (by decide) ?_
                obtain rfl := some1 he
                exact cRl hx hb hr hlk hK hP hD hS dX7_item_36
              · have he := ifn he c1019
                have c1020 : p1 = 3 := ix4 h1008 c1011 c1015 c1019
                refine va_aldq hx hb hK hP 1 2 rfl rfl (ix_in h1008) dX7_item_25 ?_
                refine W.eq (g2 := F0 mm 26 ls [.ref (t3 0)]) (by rw [c1020]; rfl) ?_
                refine lv_iload_n hx hb dX7_item_26 rfl (lv_at hl 2 rfl) ?_
                obtain ⟨v1021, h1022, he⟩ := bn1_i he
                refine cVlr (As := [.int p2]) (rest := []) ⟨hx, hb, hml, hown, hts⟩ hK hA hP hD hS (mX5_at l D k t3 (so := (SO 3)) (le := (LE 3)) (ro := (RO 3)) h1022) (cwV 1 hts gX7_item_X5_at rfl rfl rfl kX5_at ⟨Nat.le_of_ble_eq_true rfl, Nat.le_of_ble_eq_true rfl⟩) [49, 50] rfl rfl 0 rfl rfl rfl hl.1 rfl (Nat.le_of_ble_eq_true rfl) ⟨Nat.le_refl 0, Nat.le_refl 0⟩ dX7_item_27 (fun H locs hP hD hS => ?_)
                refine lv_goto (tgt := 36) hx hb dX7_item_30 (by decide) ?_
                obtain rfl := some1 he
                exact cRl hx hb hr hlk hK hP hD hS dX7_item_36
      · have he := ifn he c1023
        by_cases c1043 : p1 = 1
        · have he := ifp he c1043
          refine va_aldq hx hb hK hP 1 2 rfl rfl (ix_in h1004) dX7_item_12 ?_
          refine W.eq (g2 := F0 mm 13 ls [.ref (t1 0)]) (by rw [c1043]; rfl) ?_
          refine lv_iload_n hx hb dX7_item_13 rfl (lv_at hl 2 rfl) ?_
          obtain ⟨v1025, h1026, he⟩ := bn1_i he
          refine cVir (As := [.int p2]) (rest := []) ⟨hx, hb, hml, hown, hts⟩ hK hA hP hD hS (mX5_has l D k t1 (so := (SO 1)) (le := (LE 1)) (ro := (RO 1)) h1026) (cwV 1 hts gX7_item_X5_has rfl rfl rfl kX5_has ⟨Nat.le_of_ble_eq_true rfl, Nat.le_of_ble_eq_true rfl⟩) [45, 46] rfl rfl 0 rfl rfl rfl hl.1 rfl (Nat.le_of_ble_eq_true rfl) ⟨Nat.le_refl 0, Nat.le_refl 0⟩ dX7_item_14 (fun H locs hP hD hS => ?_)
          refine lv_if_eq (tgt := 33) hx hb dX7_item_17 (by decide) (fun c1027 => ?_) (fun c1027 => ?_)
          · have he := ifp he c1027
            refine lv_ldc2 hx hb hown w2 dX7_item_33 ?_
            obtain rfl := some1 he
            exact cRl hx hb hr hlk hK hP hD hS dX7_item_36
          · have he := ifn he c1027
            refine lv_aload_n hx hb dX7_item_20 rfl (lv_at hl 0 rfl) ?_
            refine va_get (D := D) (ci := 7) (v := .ref (d 1)) (C := RX7) (T := TX7) (N := 9) hx hb hts iX7 hown hK hP 0 rfl rfl 7 (by decide) w1 (fun _ h9 => h9) rfl dX7_item_21 ?_
            refine lv_iload_n hx hb dX7_item_24 rfl (lv_at hl 1 rfl) ?_
            obtain ⟨h1028, he⟩ := grd_i he
            by_cases c1031 : p1 = 0
            · have he := ifp he c1031
              refine va_aldq hx hb hK hP 1 2 rfl rfl (ix_in h1028) dX7_item_25 ?_
              refine W.eq (g2 := F0 mm 26 ls [.ref (t0 0)]) (by rw [c1031]; rfl) ?_
              refine lv_iload_n hx hb dX7_item_26 rfl (lv_at hl 2 rfl) ?_
              obtain ⟨v1029, h1030, he⟩ := bn1_i he
              refine cVlr (As := [.int p2]) (rest := []) ⟨hx, hb, hml, hown, hts⟩ hK hA hP hD hS (mX5_at l D k t0 (so := (SO 0)) (le := (LE 0)) (ro := (RO 0)) h1030) (cwV 1 hts gX7_item_X5_at rfl rfl rfl kX5_at ⟨Nat.le_of_ble_eq_true rfl, Nat.le_of_ble_eq_true rfl⟩) [43, 44] rfl rfl 0 rfl rfl rfl hl.1 rfl (Nat.le_of_ble_eq_true rfl) ⟨Nat.le_refl 0, Nat.le_refl 0⟩ dX7_item_27 (fun H locs hP hD hS => ?_)
              refine lv_goto (tgt := 36) hx hb dX7_item_30 (by decide) ?_
              obtain rfl := some1 he
              exact cRl hx hb hr hlk hK hP hD hS dX7_item_36
            · have he := ifn he c1031
              by_cases c1035 : p1 = 1
              · have he := ifp he c1035
                refine va_aldq hx hb hK hP 1 2 rfl rfl (ix_in h1028) dX7_item_25 ?_
                refine W.eq (g2 := F0 mm 26 ls [.ref (t1 0)]) (by rw [c1035]; rfl) ?_
                refine lv_iload_n hx hb dX7_item_26 rfl (lv_at hl 2 rfl) ?_
                obtain ⟨v1033, h1034, he⟩ := bn1_i he
                refine cVlr (As := [.int p2]) (rest := []) ⟨hx, hb, hml, hown, hts⟩ hK hA hP hD hS (mX5_at l D k t1 (so := (SO 1)) (le := (LE 1)) (ro := (RO 1)) h1034) (cwV 1 hts gX7_item_X5_at rfl rfl rfl kX5_at ⟨Nat.le_of_ble_eq_true rfl, Nat.le_of_ble_eq_true rfl⟩) [45, 46] rfl rfl 0 rfl rfl rfl hl.1 rfl (Nat.le_of_ble_eq_true rfl) ⟨Nat.le_refl 0, Nat.le_refl 0⟩ dX7_item_27 (fun H locs hP hD hS => ?_)
                refine lv_goto (tgt := 36) hx hb dX7_item_30 (by decide) ?_
                obtain rfl := some1 he
                exact cRl hx hb hr hlk hK hP hD hS dX7_item_36
              · have he := ifn he c1035
                by_cases c1039 : p1 = 2
                · have he := ifp he c1039
                  refine va_aldq hx hb hK hP 1 2 rfl rfl (ix_in h1028) dX7_item_25 ?_
                  refine W.eq (g2 := F0 mm 26 ls [.ref (t2 0)]) (by rw [c1039]; rfl) ?_
                  refine lv_iload_n hx hb dX7_item_26 rfl (lv_at hl 2 rfl) ?_
                  obtain ⟨v1037, h1038, he⟩ := bn1_i he
                  refine cVlr (As := [.int p2]) (rest := []) ⟨hx, hb, hml, hown, hts⟩ hK hA hP hD hS (mX5_at l D k t2 (so := (SO 2)) (le := (LE 2)) (ro := (RO 2)) h1038) (cwV 1 hts gX7_item_X5_at rfl rfl rfl kX5_at ⟨Nat.le_of_ble_eq_true rfl, Nat.le_of_ble_eq_true rfl⟩) [47, 48] rfl rfl 0 rfl rfl rfl hl.1 rfl (Nat.le_of_ble_eq_true rfl) ⟨Nat.le_refl 0, Nat.le_refl 0⟩ dX7_item_27 (fun H locs hP hD hS => ?_)
                  refine lv_goto (tgt := 36) hx hb dX7_item_30 (by decide) ?_
                  obtain rfl := some1 he
                  exact cRl hx hb hr hlk hK hP hD hS dX7_item_36
                · have he := ifn he c1039
                  have c1040 : p1 = 3 := ix4 h1028 c1031 c1035 c1039
                  refine va_aldq hx hb hK hP 1 2 rfl rfl (ix_in h1028) dX7_item_25 ?_
                  refine W.eq (g2 := F0 mm 26 ls [.ref (t3 0)]) (by rw [c1040]; rfl) ?_
                  refine lv_iload_n hx hb dX7_item_26 rfl (lv_at hl 2 rfl) ?_
                  obtain ⟨v1041, h1042, he⟩ := bn1_i he
                  refine cVlr (As := [.int p2]) (rest := []) ⟨hx, hb, hml, hown, hts⟩ hK hA hP hD hS (mX5_at l D k t3 (so := (SO 3)) (le := (LE 3)) (ro := (RO 3)) h1042) (cwV 1 hts gX7_item_X5_at rfl rfl rfl kX5_at ⟨Nat.le_of_ble_eq_true rfl, Nat.le_of_ble_eq_true rfl⟩) [49, 50] rfl rfl 0 rfl rfl rfl hl.1 rfl (Nat.le_of_ble_eq_true rfl) ⟨Nat.le_refl 0, Nat.le_refl 0⟩ dX7_item_27 (fun H locs hP hD hS => ?_)
                  refine lv_goto (tgt := 36) hx hb dX7_item_30 (by decide) ?_
                  obtain rfl := some1 he
                  exact cRl hx hb hr hlk hK hP hD hS dX7_item_36
        · have he := ifn he c1043
          by_cases c1063 : p1 = 2
          · have he := ifp he c1063
            refine va_aldq hx hb hK hP 1 2 rfl rfl (ix_in h1004) dX7_item_12 ?_
            refine W.eq (g2 := F0 mm 13 ls [.ref (t2 0)]) (by rw [c1063]; rfl) ?_
            refine lv_iload_n hx hb dX7_item_13 rfl (lv_at hl 2 rfl) ?_
            obtain ⟨v1045, h1046, he⟩ := bn1_i he
            refine cVir (As := [.int p2]) (rest := []) ⟨hx, hb, hml, hown, hts⟩ hK hA hP hD hS (mX5_has l D k t2 (so := (SO 2)) (le := (LE 2)) (ro := (RO 2)) h1046) (cwV 1 hts gX7_item_X5_has rfl rfl rfl kX5_has ⟨Nat.le_of_ble_eq_true rfl, Nat.le_of_ble_eq_true rfl⟩) [47, 48] rfl rfl 0 rfl rfl rfl hl.1 rfl (Nat.le_of_ble_eq_true rfl) ⟨Nat.le_refl 0, Nat.le_refl 0⟩ dX7_item_14 (fun H locs hP hD hS => ?_)
            refine lv_if_eq (tgt := 33) hx hb dX7_item_17 (by decide) (fun c1047 => ?_) (fun c1047 => ?_)
            · have he := ifp he c1047
              refine lv_ldc2 hx hb hown w2 dX7_item_33 ?_
              obtain rfl := some1 he
              exact cRl hx hb hr hlk hK hP hD hS dX7_item_36
            · have he := ifn he c1047
              refine lv_aload_n hx hb dX7_item_20 rfl (lv_at hl 0 rfl) ?_
              refine va_get (D := D) (ci := 7) (v := .ref (d 1)) (C := RX7) (T := TX7) (N := 9) hx hb hts iX7 hown hK hP 0 rfl rfl 7 (by decide) w1 (fun _ h9 => h9) rfl dX7_item_21 ?_
              refine lv_iload_n hx hb dX7_item_24 rfl (lv_at hl 1 rfl) ?_
              obtain ⟨h1048, he⟩ := grd_i he
              by_cases c1051 : p1 = 0
              · have he := ifp he c1051
                refine va_aldq hx hb hK hP 1 2 rfl rfl (ix_in h1048) dX7_item_25 ?_
                refine W.eq (g2 := F0 mm 26 ls [.ref (t0 0)]) (by rw [c1051]; rfl) ?_
                refine lv_iload_n hx hb dX7_item_26 rfl (lv_at hl 2 rfl) ?_
                obtain ⟨v1049, h1050, he⟩ := bn1_i he
                refine cVlr (As := [.int p2]) (rest := []) ⟨hx, hb, hml, hown, hts⟩ hK hA hP hD hS (mX5_at l D k t0 (so := (SO 0)) (le := (LE 0)) (ro := (RO 0)) h1050) (cwV 1 hts gX7_item_X5_at rfl rfl rfl kX5_at ⟨Nat.le_of_ble_eq_true rfl, Nat.le_of_ble_eq_true rfl⟩) [43, 44] rfl rfl 0 rfl rfl rfl hl.1 rfl (Nat.le_of_ble_eq_true rfl) ⟨Nat.le_refl 0, Nat.le_refl 0⟩ dX7_item_27 (fun H locs hP hD hS => ?_)
                refine lv_goto (tgt := 36) hx hb dX7_item_30 (by decide) ?_
                obtain rfl := some1 he
                exact cRl hx hb hr hlk hK hP hD hS dX7_item_36
              · have he := ifn he c1051
                by_cases c1055 : p1 = 1
                · have he := ifp he c1055
                  refine va_aldq hx hb hK hP 1 2 rfl rfl (ix_in h1048) dX7_item_25 ?_
                  refine W.eq (g2 := F0 mm 26 ls [.ref (t1 0)]) (by rw [c1055]; rfl) ?_
                  refine lv_iload_n hx hb dX7_item_26 rfl (lv_at hl 2 rfl) ?_
                  obtain ⟨v1053, h1054, he⟩ := bn1_i he
                  refine cVlr (As := [.int p2]) (rest := []) ⟨hx, hb, hml, hown, hts⟩ hK hA hP hD hS (mX5_at l D k t1 (so := (SO 1)) (le := (LE 1)) (ro := (RO 1)) h1054) (cwV 1 hts gX7_item_X5_at rfl rfl rfl kX5_at ⟨Nat.le_of_ble_eq_true rfl, Nat.le_of_ble_eq_true rfl⟩) [45, 46] rfl rfl 0 rfl rfl rfl hl.1 rfl (Nat.le_of_ble_eq_true rfl) ⟨Nat.le_refl 0, Nat.le_refl 0⟩ dX7_item_27 (fun H locs hP hD hS => ?_)
                  refine lv_goto (tgt := 36) hx hb dX7_item_30 (by decide) ?_
                  obtain rfl := some1 he
                  exact cRl hx hb hr hlk hK hP hD hS dX7_item_36
                · have he := ifn he c1055
                  by_cases c1059 : p1 = 2
                  · have he := ifp he c1059
                    refine va_aldq hx hb hK hP 1 2 rfl rfl (ix_in h1048) dX7_item_25 ?_
                    refine W.eq (g2 := F0 mm 26 ls [.ref (t2 0)]) (by rw [c1059]; rfl) ?_
                    refine lv_iload_n hx hb dX7_item_26 rfl (lv_at hl 2 rfl) ?_
                    obtain ⟨v1057, h1058, he⟩ := bn1_i he
                    refine cVlr (As := [.int p2]) (rest := []) ⟨hx, hb, hml, hown, hts⟩ hK hA hP hD hS (mX5_at l D k t2 (so := (SO 2)) (le := (LE 2)) (ro := (RO 2)) h1058) (cwV 1 hts gX7_item_X5_at rfl rfl rfl kX5_at ⟨Nat.le_of_ble_eq_true rfl, Nat.le_of_ble_eq_true rfl⟩) [47, 48] rfl rfl 0 rfl rfl rfl hl.1 rfl (Nat.le_of_ble_eq_true rfl) ⟨Nat.le_refl 0, Nat.le_refl 0⟩ dX7_item_27 (fun H locs hP hD hS => ?_)
                    refine lv_goto (tgt := 36) hx hb dX7_item_30 (by decide) ?_
                    obtain rfl := some1 he
                    exact cRl hx hb hr hlk hK hP hD hS dX7_item_36
                  · have he := ifn he c1059
                    have c1060 : p1 = 3 := ix4 h1048 c1051 c1055 c1059
                    refine va_aldq hx hb hK hP 1 2 rfl rfl (ix_in h1048) dX7_item_25 ?_
                    refine W.eq (g2 := F0 mm 26 ls [.ref (t3 0)]) (by rw [c1060]; rfl) ?_
                    refine lv_iload_n hx hb dX7_item_26 rfl (lv_at hl 2 rfl) ?_
                    obtain ⟨v1061, h1062, he⟩ := bn1_i he
                    refine cVlr (As := [.int p2]) (rest := []) ⟨hx, hb, hml, hown, hts⟩ hK hA hP hD hS (mX5_at l D k t3 (so := (SO 3)) (le := (LE 3)) (ro := (RO 3)) h1062) (cwV 1 hts gX7_item_X5_at rfl rfl rfl kX5_at ⟨Nat.le_of_ble_eq_true rfl, Nat.le_of_ble_eq_true rfl⟩) [49, 50] rfl rfl 0 rfl rfl rfl hl.1 rfl (Nat.le_of_ble_eq_true rfl) ⟨Nat.le_refl 0, Nat.le_refl 0⟩ dX7_item_27 (fun H locs hP hD hS => ?_)
                    refine lv_goto (tgt := 36) hx hb dX7_item_30 (by decide) ?_
                    obtain rfl := some1 he
                    exact cRl hx hb hr hlk hK hP hD hS dX7_item_36
          · have he := ifn he c1063
            have c1064 : p1 = 3 := ix4 h1004 c1023 c1043 c1063
            refine va_aldq hx hb hK hP 1 2 rfl rfl (ix_in h1004) dX7_item_12 ?_
            refine W.eq (g2 := F0 mm 13 ls [.ref (t3 0)]) (by rw [c1064]; rfl) ?_
            refine lv_iload_n hx hb dX7_item_13 rfl (lv_at hl 2 rfl) ?_
            obtain ⟨v1065, h1066, he⟩ := bn1_i he
            refine cVir (As := [.int p2]) (rest := []) ⟨hx, hb, hml, hown, hts⟩ hK hA hP hD hS (mX5_has l D k t3 (so := (SO 3)) (le := (LE 3)) (ro := (RO 3)) h1066) (cwV 1 hts gX7_item_X5_has rfl rfl rfl kX5_has ⟨Nat.le_of_ble_eq_true rfl, Nat.le_of_ble_eq_true rfl⟩) [49, 50] rfl rfl 0 rfl rfl rfl hl.1 rfl (Nat.le_of_ble_eq_true rfl) ⟨Nat.le_refl 0, Nat.le_refl 0⟩ dX7_item_14 (fun H locs hP hD hS => ?_)
            refine lv_if_eq (tgt := 33) hx hb dX7_item_17 (by decide) (fun c1067 => ?_) (fun c1067 => ?_)
            · have he := ifp he c1067
              refine lv_ldc2 hx hb hown w2 dX7_item_33 ?_
              obtain rfl := some1 he
              exact cRl hx hb hr hlk hK hP hD hS dX7_item_36
            · have he := ifn he c1067
              refine lv_aload_n hx hb dX7_item_20 rfl (lv_at hl 0 rfl) ?_
              refine va_get (D := D) (ci := 7) (v := .ref (d 1)) (C := RX7) (T := TX7) (N := 9) hx hb hts iX7 hown hK hP 0 rfl rfl 7 (by decide) w1 (fun _ h9 => h9) rfl dX7_item_21 ?_
              refine lv_iload_n hx hb dX7_item_24 rfl (lv_at hl 1 rfl) ?_
              obtain ⟨h1068, he⟩ := grd_i he
              by_cases c1071 : p1 = 0
              · have he := ifp he c1071
                refine va_aldq hx hb hK hP 1 2 rfl rfl (ix_in h1068) dX7_item_25 ?_
                refine W.eq (g2 := F0 mm 26 ls [.ref (t0 0)]) (by rw [c1071]; rfl) ?_
                refine lv_iload_n hx hb dX7_item_26 rfl (lv_at hl 2 rfl) ?_
                obtain ⟨v1069, h1070, he⟩ := bn1_i he
                refine cVlr (As := [.int p2]) (rest := []) ⟨hx, hb, hml, hown, hts⟩ hK hA hP hD hS (mX5_at l D k t0 (so := (SO 0)) (le := (LE 0)) (ro := (RO 0)) h1070) (cwV 1 hts gX7_item_X5_at rfl rfl rfl kX5_at ⟨Nat.le_of_ble_eq_true rfl, Nat.le_of_ble_eq_true rfl⟩) [43, 44] rfl rfl 0 rfl rfl rfl hl.1 rfl (Nat.le_of_ble_eq_true rfl) ⟨Nat.le_refl 0, Nat.le_refl 0⟩ dX7_item_27 (fun H locs hP hD hS => ?_)
                refine lv_goto (tgt := 36) hx hb dX7_item_30 (by decide) ?_
                obtain rfl := some1 he
                exact cRl hx hb hr hlk hK hP hD hS dX7_item_36
              · have he := ifn he c1071
                by_cases c1075 : p1 = 1
                · have he := ifp he c1075
                  refine va_aldq hx hb hK hP 1 2 rfl rfl (ix_in h1068) dX7_item_25 ?_
                  refine W.eq (g2 := F0 mm 26 ls [.ref (t1 0)]) (by rw [c1075]; rfl) ?_
                  refine lv_iload_n hx hb dX7_item_26 rfl (lv_at hl 2 rfl) ?_
                  obtain ⟨v1073, h1074, he⟩ := bn1_i he
                  refine cVlr (As := [.int p2]) (rest := []) ⟨hx, hb, hml, hown, hts⟩ hK hA hP hD hS (mX5_at l D k t1 (so := (SO 1)) (le := (LE 1)) (ro := (RO 1)) h1074) (cwV 1 hts gX7_item_X5_at rfl rfl rfl kX5_at ⟨Nat.le_of_ble_eq_true rfl, Nat.le_of_ble_eq_true rfl⟩) [45, 46] rfl rfl 0 rfl rfl rfl hl.1 rfl (Nat.le_of_ble_eq_true rfl) ⟨Nat.le_refl 0, Nat.le_refl 0⟩ dX7_item_27 (fun H locs hP hD hS => ?_)
                  refine lv_goto (tgt := 36) hx hb dX7_item_30 (by decide) ?_
                  obtain rfl := some1 he
                  exact cRl hx hb hr hlk hK hP hD hS dX7_item_36
                · have he := ifn he c1075
                  by_cases c1079 : p1 = 2
                  · have he := ifp he c1079
                    refine va_aldq hx hb hK hP 1 2 rfl rfl (ix_in h1068) dX7_item_25 ?_
                    refine W.eq (g2 := F0 mm 26 ls [.ref (t2 0)]) (by rw [c1079]; rfl) ?_
                    refine lv_iload_n hx hb dX7_item_26 rfl (lv_at hl 2 rfl) ?_
                    obtain ⟨v1077, h1078, he⟩ := bn1_i he
                    refine cVlr (As := [.int p2]) (rest := []) ⟨hx, hb, hml, hown, hts⟩ hK hA hP hD hS (mX5_at l D k t2 (so := (SO 2)) (le := (LE 2)) (ro := (RO 2)) h1078) (cwV 1 hts gX7_item_X5_at rfl rfl rfl kX5_at ⟨Nat.le_of_ble_eq_true rfl, Nat.le_of_ble_eq_true rfl⟩) [47, 48] rfl rfl 0 rfl rfl rfl hl.1 rfl (Nat.le_of_ble_eq_true rfl) ⟨Nat.le_refl 0, Nat.le_refl 0⟩ dX7_item_27 (fun H locs hP hD hS => ?_)
                    refine lv_goto (tgt := 36) hx hb dX7_item_30 (by decide) ?_
                    obtain rfl := some1 he
                    exact cRl hx hb hr hlk hK hP hD hS dX7_item_36
                  · have he := ifn he c1079
                    have c1080 : p1 = 3 := ix4 h1068 c1071 c1075 c1079
                    refine va_aldq hx hb hK hP 1 2 rfl rfl (ix_in h1068) dX7_item_25 ?_
                    refine W.eq (g2 := F0 mm 26 ls [.ref (t3 0)]) (by rw [c1080]; rfl) ?_
                    refine lv_iload_n hx hb dX7_item_26 rfl (lv_at hl 2 rfl) ?_
                    obtain ⟨v1081, h1082, he⟩ := bn1_i he
                    refine cVlr (As := [.int p2]) (rest := []) ⟨hx, hb, hml, hown, hts⟩ hK hA hP hD hS (mX5_at l D k t3 (so := (SO 3)) (le := (LE 3)) (ro := (RO 3)) h1082) (cwV 1 hts gX7_item_X5_at rfl rfl rfl kX5_at ⟨Nat.le_of_ble_eq_true rfl, Nat.le_of_ble_eq_true rfl⟩) [49, 50] rfl rfl 0 rfl rfl rfl hl.1 rfl (Nat.le_of_ble_eq_true rfl) ⟨Nat.le_refl 0, Nat.le_refl 0⟩ dX7_item_27 (fun H locs hP hD hS => ?_)
                    refine lv_goto (tgt := 36) hx hb dX7_item_30 (by decide) ?_
                    obtain rfl := some1 he
                    exact cRl hx hb hr hlk hK hP hD hS dX7_item_36
  exact key ss.heap [] rfl rfl hP hS
theorem kX7_differ : yX7_differ.cls = RX7 ∧ yX7_differ.cls ≠ "java/lang/invoke/MethodHandle" ∧ yX7_differ.cls ≠ "java/lang/invoke/VarHandle" ∧ (parseMethodDescriptor yX7_differ.desc).map (fun d => d.parameters.length) = some 3 := by decide +kernel
set_option maxRecDepth 100000 in
set_option maxHeartbeats 4000000 in
theorem mX7_differ (l : Launch) (D : va_G) (k : Nat → ClassId) (d : Nat → Nat) (a : Nat → Nat) (a2 : Nat → Nat) (a3 : Nat → Nat) (h : Nat → Nat) (c : Nat → Nat) (g : Nat → Nat) (t0 : Nat → Nat) (t1 : Nat → Nat) (t2 : Nat → Nat) (t3 : Nat → Nat) (b : Nat) (v : Nat) (o : Nat) (b2 : Nat) {P : Nat → Nat → Int32} {T : Nat → Nat → Int32} {K : Nat → Nat → Int32} {X : Nat → Int32} {Y : Nat → Int32} {C : Nat → Int32} {F : Nat → Int64} {z : Int32} {SO_0 : Nat → Int32} {LE_0 : Nat → Int32} {RO_0 : Nat → Nat → Int64} {hi : Int32} {p1 : Int32} {p2 : Int32} {p3 : Int32} {r : Int32} {SO' : Nat → Int32} {LE' : Nat → Int32} {RO' : Nat → Nat → Int64} (he : xX7_differ P SO_0 LE_0 RO_0 p1 p2 p3 = some (r, SO', LE', RO')) : CtI l D k yX7_differ wsX7_differ ({ frames := 3, cells := 0, slots := 0, locals := 71 } : Room) [.ref (d 0), .int p1, .int p2, .int p3] (wMain k d a a2 a3 h c g t0 t1 t2 t3 b v o b2 P T K X Y C F z SO_0 LE_0 RO_0 hi) r (wMain k d a a2 a3 h c g t0 t1 t2 t3 b v o b2 P T K X Y C F z SO' LE' RO' hi) := by
  intro sz9
  refine cSt (lv := [(0, .ref (d 0)), (1, .int p1), (2, .int p2), (3, .int p3)]) (own := RX7) (cc := cX7_differ) (nL := 5) (ret := (some .int)) (by decide +kernel) rfl rfl (Nat.le_of_ble_eq_true rfl) rfl ?_
  intro pp ee ss mm bl me co hsz hC0 hP hD hS ls hl
  subst hsz
  obtain ⟨hx, hb, hr, hml, hown, hts, hK, hlk⟩ := hC0
  have hA : ∀ q, ss.heap.size ≤ q → va_A (wMain k d a a2 a3 h c g t0 t1 t2 t3 b v o b2 P T K X Y C F z SO_0 LE_0 RO_0 hi) ss.heap.size q := fun q h => Or.inr h
  have iX7 : ∀ w ∈ wsX70, w ∈ wsX7_differ := fun _ h => List.mem_cons_of_mem _ (List.mem_append_left _ (List.mem_append_left _ (List.mem_append_left _ (List.mem_append_right _ h))))
  have w2 := hts (.fieldLink RX7 34 "DeadListPool" "survey" "LDeadListPool$Survey;") (List.mem_of_getElem? (i := 2) rfl)
  have w3 := hts (.fieldLink RX7 56 "DeadListPool" "sheets" "[LDeadListPool$Sheet;") (List.mem_of_getElem? (i := 3) rfl)
  have w1 := hts (.fieldLink RX7 10 "DeadListPool" "pool" "LDeadListPool$Pool;") (List.mem_of_getElem? (i := 1) rfl)
  have B35 : ∀ (x1 : Int32) (x2 : Int32) (x3 : Int32) (x4 : Int32) (SO : Nat → Int32) (LE : Nat → Int32) (RO : Nat → Nat → Int64), xX7_differ_35 P x1 x2 x3 x4 SO LE RO = some (r, SO', LE', RO') → ∀ (H : Heap) (locs : List Loc), va_P D vwCl (wMain k d a a2 a3 h c g t0 t1 t2 t3 b v o b2 P T K X Y C F z SO LE RO hi) H → va_D (va_A (wMain k d a a2 a3 h c g t0 t1 t2 t3 b v o b2 P T K X Y C F z SO_0 LE_0 RO_0 hi) ss.heap.size) (wMain k d a a2 a3 h c g t0 t1 t2 t3 b v o b2 P T K X Y C F z SO LE RO hi) → va_S (va_A (wMain k d a a2 a3 h c g t0 t1 t2 t3 b v o b2 P T K X Y C F z SO_0 LE_0 RO_0 hi) ss.heap.size) ss.heap H locs → ∀ ls : Array Slot, lv_has ls 5 [(0, .ref (d 0)), (1, .int x1), (2, .int x2), (3, .int x3), (4, .int x4)] → W pp l ee ({ frames := 3, cells := 0, slots := 0, locals := 71 } : Room) ss mm ([.ref (d 0), .int p1, .int p2, .int p3] : List Value).toArray bl me co H locs 0 0 (MQ bl (cQi D k (wMain k d a a2 a3 h c g t0 t1 t2 t3 b v o b2 P T K X Y C F z SO_0 LE_0 RO_0 hi) ss.heap.size r (wMain k d a a2 a3 h c g t0 t1 t2 t3 b v o b2 P T K X Y C F z SO' LE' RO' hi)) ([.ref (d 0), .int p1, .int p2, .int p3] : List Value).toArray ss 0 0 (va_A (wMain k d a a2 a3 h c g t0 t1 t2 t3 b v o b2 P T K X Y C F z SO_0 LE_0 RO_0 hi) ss.heap.size)) (F0 mm 35 ls []) := by
    intro x1 x2 x3 x4 SO LE RO he H locs hP hD hS ls hl
    refine lv_iload hx hb dX7_differ_35 (lv_at hl 4 rfl) ?_
    refine lv_if_eq (tgt := 45) hx hb dX7_differ_37 (by decide) (fun c1 => ?_) (fun c1 => ?_)
    · have he := ifp he c1
      refine lv_aload_n hx hb dX7_differ_45 rfl (lv_at hl 0 rfl) ?_
      refine va_get (D := D) (ci := 7) (v := .ref v) (C := RX7) (T := TX7) (N := 9) hx hb hts iX7 hown hK hP 0 rfl rfl 4 (by decide) w2 (fun _ h9 => h9) rfl dX7_differ_46 ?_
      refine lv_iload_n hx hb dX7_differ_49 rfl (lv_at hl 2 rfl) ?_
      refine lv_iload_n hx hb dX7_differ_50 rfl (lv_at hl 3 rfl) ?_
      refine lv_aload_n hx hb dX7_differ_51 rfl (lv_at hl 0 rfl) ?_
      refine va_get (D := D) (ci := 7) (v := .ref (d 1)) (C := RX7) (T := TX7) (N := 9) hx hb hts iX7 hown hK hP 0 rfl rfl 7 (by decide) w3 (fun _ h9 => h9) rfl dX7_differ_52 ?_
      refine lv_iload_n hx hb dX7_differ_55 rfl (lv_at hl 1 rfl) ?_
      obtain ⟨h2, he⟩ := grd_i he
      by_cases c14 : x1 = 0
      · have he := ifp he c14
        refine va_aldq hx hb hK hP 1 2 rfl rfl (ix_in h2) dX7_differ_56 ?_
        refine W.eq (g2 := F0 mm 57 ls [.ref (t0 0), .int x3, .int x2, .ref v]) (by rw [c14]; rfl) ?_
        obtain ⟨v3, SO4, LE5, RO6, h7, he⟩ := bn4_i he
        obtain ⟨SO8, e9, he⟩ := lt_i he
        obtain ⟨LE10, e11, he⟩ := lt_i he
        obtain ⟨RO12, e13, he⟩ := lt_i he
        refine cVi (wf := (wMain k d a a2 a3 h c g t0 t1 t2 t3 b v o b2 P T K X Y C F z SO8 LE10 RO12 hi)) (As := [.int x2, .int x3, .ref (t0 0)]) (rest := []) ⟨hx, hb, hml, hown, hts⟩ hK hA hP hD hS (mX6_writeDifference l D k v h a t0 (P := P) (X := X) (so_0 := (SO 0)) (le_0 := (LE 0)) (ro_0 := (RO 0)) h7) (cwV 3 hts gX7_differ_X6_writeDifference rfl rfl rfl kX6_writeDifference ⟨Nat.le_of_ble_eq_true rfl, Nat.le_of_ble_eq_true rfl⟩) [33, 34, 35, 2, 3, 4, 5, 6, 7, 8, 9, 10, 11, 43, 44] rfl rfl (by rw [e13, e11, e9]; rfl) [true, true, false, false, false, false, false, false, false, false, false, false, true, true, true, true, true, true, true, true, true, true, true, true, true, true, true, true, true, true, true, true, true, false, false, false, true, true, true, true, true, true, true, false, false, true, true, true, true, true, true] (by rw [e13, e11, e9]; exact ⟨rfl, rfl, rfl, rfl, rfl, rfl, rfl, rfl, rfl, rfl, rfl, rfl, rfl, rfl, rfl, rfl, rfl, rfl, rfl, rfl, rfl, rfl, rfl, rfl, rfl, rfl, rfl, rfl, rfl, rfl, rfl, rfl, rfl, rfl, rfl, rfl, trivial⟩) 51 rfl (by decide +kernel) rfl 0 rfl rfl rfl hl.1 rfl (Nat.le_of_ble_eq_true rfl) ⟨Nat.le_refl 0, Nat.le_refl 0⟩ dX7_differ_57 (fun H locs hP hD hS => ?_)
        obtain ⟨rfl, rfl, rfl, rfl⟩ := some4 he
        exact cRi hx hb hr hlk hK rfl hP hD hS dX7_differ_60
      · have he := ifn he c14
        by_cases c27 : x1 = 1
        · have he := ifp he c27
          refine va_aldq hx hb hK hP 1 2 rfl rfl (ix_in h2) dX7_differ_56 ?_
          refine W.eq (g2 := F0 mm 57 ls [.ref (t1 0), .int x3, .int x2, .ref v]) (by rw [c27]; rfl) ?_
          obtain ⟨v16, SO17, LE18, RO19, h20, he⟩ := bn4_i he
          obtain ⟨SO21, e22, he⟩ := lt_i he
          obtain ⟨LE23, e24, he⟩ := lt_i he
          obtain ⟨RO25, e26, he⟩ := lt_i he
          refine cVi (wf := (wMain k d a a2 a3 h c g t0 t1 t2 t3 b v o b2 P T K X Y C F z SO21 LE23 RO25 hi)) (As := [.int x2, .int x3, .ref (t1 0)]) (rest := []) ⟨hx, hb, hml, hown, hts⟩ hK hA hP hD hS (mX6_writeDifference l D k v h a t1 (P := P) (X := X) (so_0 := (SO 1)) (le_0 := (LE 1)) (ro_0 := (RO 1)) h20) (cwV 3 hts gX7_differ_X6_writeDifference rfl rfl rfl kX6_writeDifference ⟨Nat.le_of_ble_eq_true rfl, Nat.le_of_ble_eq_true rfl⟩) [33, 34, 35, 2, 3, 4, 5, 6, 7, 8, 9, 10, 11, 45, 46] rfl rfl (by rw [e26, e24, e22]; rfl) [true, true, false, false, false, false, false, false, false, false, false, false, true, true, true, true, true, true, true, true, true, true, true, true, true, true, true, true, true, true, true, true, true, false, false, false, true, true, true, true, true, true, true, true, true, false, false, true, true, true, true] (by rw [e26, e24, e22]; exact ⟨rfl, rfl, rfl, rfl, rfl, rfl, rfl, rfl, rfl, rfl, rfl, rfl, rfl, rfl, rfl, rfl, rfl, rfl, rfl, rfl, rfl, rfl, rfl, rfl, rfl, rfl, rfl, rfl, rfl, rfl, rfl, rfl, rfl, rfl, rfl, rfl, trivial⟩) 51 rfl (by decide +kernel) rfl 0 rfl rfl rfl hl.1 rfl (Nat.le_of_ble_eq_true rfl) ⟨Nat.le_refl 0, Nat.le_refl 0⟩ dX7_differ_57 (fun H locs hP hD hS => ?_)
          obtain ⟨rfl, rfl, rfl, rfl⟩ := some4 he
          exact cRi hx hb hr hlk hK rfl hP hD hS dX7_differ_60
        · have he := ifn he c27
          by_cases c40 : x1 = 2
          · have he := ifp he c40
            refine va_aldq hx hb hK hP 1 2 rfl rfl (ix_in h2) dX7_differ_56 ?_
            refine W.eq (g2 := F0 mm 57 ls [.ref (t2 0), .int x3, .int x2, .ref v]) (by rw [c40]; rfl) ?_
            obtain ⟨v29, SO30, LE31, RO32, h33, he⟩ := bn4_i he
            obtain ⟨SO34, e35, he⟩ := lt_i he
            obtain ⟨LE36, e37, he⟩ := lt_i he
            obtain ⟨RO38, e39, he⟩ := lt_i he
            refine cVi (wf := (wMain k d a a2 a3 h c g t0 t1 t2 t3 b v o b2 P T K X Y C F z SO34 LE36 RO38 hi)) (As := [.int x2, .int x3, .ref (t2 0)]) (rest := []) ⟨hx, hb, hml, hown, hts⟩ hK hA hP hD hS (mX6_writeDifference l D k v h a t2 (P := P) (X := X) (so_0 := (SO 2)) (le_0 := (LE 2)) (ro_0 := (RO 2)) h33) (cwV 3 hts gX7_differ_X6_writeDifference rfl rfl rfl kX6_writeDifference ⟨Nat.le_of_ble_eq_true rfl, Nat.le_of_ble_eq_true rfl⟩) [33, 34, 35, 2, 3, 4, 5, 6, 7, 8, 9, 10, 11, 47, 48] rfl rfl (by rw [e39, e37, e35]; rfl) [true, true, false, false, false, false, false, false, false, false, false, false, true, true, true, true, true, true, true, true, true, true, true, true, true, true, true, true, true, true, true, true, true, false, false, false, true, true, true, true, true, true, true, true, true, true, true, false, false, true, true] (by rw [e39, e37, e35]; exact ⟨rfl, rfl, rfl, rfl, rfl, rfl, rfl, rfl, rfl, rfl, rfl, rfl, rfl, rfl, rfl, rfl, rfl, rfl, rfl, rfl, rfl, rfl, rfl, rfl, rfl, rfl, rfl, rfl, rfl, rfl, rfl, rfl, rfl, rfl, rfl, rfl, trivial⟩) 51 rfl (by decide +kernel) rfl 0 rfl rfl rfl hl.1 rfl (Nat.le_of_ble_eq_true rfl) ⟨Nat.le_refl 0, Nat.le_refl 0⟩ dX7_differ_57 (fun H locs hP hD hS => ?_)
            obtain ⟨rfl, rfl, rfl, rfl⟩ := some4 he
            exact cRi hx hb hr hlk hK rfl hP hD hS dX7_differ_60
          · have he := ifn he c40
            have c41 : x1 = 3 := ix4 h2 c14 c27 c40
            refine va_aldq hx hb hK hP 1 2 rfl rfl (ix_in h2) dX7_differ_56 ?_
            refine W.eq (g2 := F0 mm 57 ls [.ref (t3 0), .int x3, .int x2, .ref v]) (by rw [c41]; rfl) ?_
            obtain ⟨v42, SO43, LE44, RO45, h46, he⟩ := bn4_i he
            obtain ⟨SO47, e48, he⟩ := lt_i he
            obtain ⟨LE49, e50, he⟩ := lt_i he
            obtain ⟨RO51, e52, he⟩ := lt_i he
            refine cVi (wf := (wMain k d a a2 a3 h c g t0 t1 t2 t3 b v o b2 P T K X Y C F z SO47 LE49 RO51 hi)) (As := [.int x2, .int x3, .ref (t3 0)]) (rest := []) ⟨hx, hb, hml, hown, hts⟩ hK hA hP hD hS (mX6_writeDifference l D k v h a t3 (P := P) (X := X) (so_0 := (SO 3)) (le_0 := (LE 3)) (ro_0 := (RO 3)) h46) (cwV 3 hts gX7_differ_X6_writeDifference rfl rfl rfl kX6_writeDifference ⟨Nat.le_of_ble_eq_true rfl, Nat.le_of_ble_eq_true rfl⟩) [33, 34, 35, 2, 3, 4, 5, 6, 7, 8, 9, 10, 11, 49, 50] rfl rfl (by rw [e52, e50, e48]; rfl) [true, true, false, false, false, false, false, false, false, false, false, false, true, true, true, true, true, true, true, true, true, true, true, true, true, true, true, true, true, true, true, true, true, false, false, false, true, true, true, true, true, true, true, true, true, true, true, true, true, false, false] (by rw [e52, e50, e48]; exact ⟨rfl, rfl, rfl, rfl, rfl, rfl, rfl, rfl, rfl, rfl, rfl, rfl, rfl, rfl, rfl, rfl, rfl, rfl, rfl, rfl, rfl, rfl, rfl, rfl, rfl, rfl, rfl, rfl, rfl, rfl, rfl, rfl, rfl, rfl, rfl, rfl, trivial⟩) 51 rfl (by decide +kernel) rfl 0 rfl rfl rfl hl.1 rfl (Nat.le_of_ble_eq_true rfl) ⟨Nat.le_refl 0, Nat.le_refl 0⟩ dX7_differ_57 (fun H locs hP hD hS => ?_)
            obtain ⟨rfl, rfl, rfl, rfl⟩ := some4 he
            exact cRi hx hb hr hlk hK rfl hP hD hS dX7_differ_60
    · have he := ifn he c1
      refine lv_iload hx hb dX7_differ_40 (lv_at hl 4 rfl) ?_
      refine lv_goto (tgt := 60) hx hb dX7_differ_42 (by decide) ?_
      obtain ⟨rfl, rfl, rfl, rfl⟩ := some4 he
      exact cRi hx hb hr hlk hK rfl hP hD hS dX7_differ_60
  have hS0 := hS
  have key : ∀ (H : Heap) (locs : List Loc), H = ss.heap → locs = [] → va_P D vwCl (wMain k d a a2 a3 h c g t0 t1 t2 t3 b v o b2 P T K X Y C F z SO_0 LE_0 RO_0 hi) H → va_S (va_A (wMain k d a a2 a3 h c g t0 t1 t2 t3 b v o b2 P T K X Y C F z SO_0 LE_0 RO_0 hi) ss.heap.size) ss.heap H locs → W pp l ee ({ frames := 3, cells := 0, slots := 0, locals := 71 } : Room) ss mm ([.ref (d 0), .int p1, .int p2, .int p3] : List Value).toArray bl me co H locs 0 0 (MQ bl (cQi D k (wMain k d a a2 a3 h c g t0 t1 t2 t3 b v o b2 P T K X Y C F z SO_0 LE_0 RO_0 hi) ss.heap.size r (wMain k d a a2 a3 h c g t0 t1 t2 t3 b v o b2 P T K X Y C F z SO' LE' RO' hi)) ([.ref (d 0), .int p1, .int p2, .int p3] : List Value).toArray ss 0 0 (va_A (wMain k d a a2 a3 h c g t0 t1 t2 t3 b v o b2 P T K X Y C F z SO_0 LE_0 RO_0 hi) ss.heap.size)) (F0 mm 0 ls []) := by
    intro H locs _ _ hP hS
    refine lv_iload_n hx hb dX7_differ_0 rfl (lv_at hl 1 rfl) ?_
    obtain ⟨v1001, h1002, he⟩ := bn1_i he
    refine cSi (rest := []) ⟨hx, hb, hml, hown, hts⟩ hK hA hP hD hS (mX7_isSheet l D k h1002) (cwS 1 hts gX7_differ_X7_isSheet rfl rfl rfl kX7_isSheet ⟨Nat.le_of_ble_eq_true rfl, Nat.le_of_ble_eq_true rfl⟩) rfl hl.1 rfl (Nat.le_of_ble_eq_true rfl) ⟨Nat.le_refl 0, Nat.le_refl 0⟩ dX7_differ_1 (fun H locs hP hD hS => ?_)
    refine lv_if_ne (tgt := 10) hx hb dX7_differ_4 (by decide) (fun c1003 => ?_) (fun c1003 => ?_)
    · have he := ifn he c1003
      refine lv_aload_n hx hb dX7_differ_10 rfl (lv_at hl 0 rfl) ?_
      refine va_get (D := D) (ci := 7) (v := .ref (a 0)) (C := RX7) (T := TX7) (N := 9) hx hb hts iX7 hown hK hP 0 rfl rfl 0 (by decide) w1 (fun _ h9 => h9) rfl dX7_differ_11 ?_
      refine lv_iload_n hx hb dX7_differ_14 rfl (lv_at hl 2 rfl) ?_
      obtain ⟨v1004, h1005, he⟩ := bn1_i he
      refine cVir (As := [.int p2]) (rest := []) ⟨hx, hb, hml, hown, hts⟩ hK hA hP hD hS (mX4_refusalAsHolder l D k a (P := P) h1005) (cwV 1 hts gX7_differ_X4_refusalAsHolder rfl rfl rfl kX4_refusalAsHolder ⟨Nat.le_of_ble_eq_true rfl, Nat.le_of_ble_eq_true rfl⟩) [2, 3, 4, 5, 6, 7, 8, 9, 10, 11] rfl rfl 0 rfl rfl rfl hl.1 rfl (Nat.le_of_ble_eq_true rfl) ⟨Nat.le_refl 0, Nat.le_refl 0⟩ dX7_differ_15 (fun H locs hP hD hS => ?_)
      refine lv_istore (lv' := [(4, .int v1004), (0, .ref (d 0)), (1, .int p1), (2, .int p2), (3, .int p3)]) hx hb dX7_differ_18 hl (by decide) rfl (fun ls hl => ?_)
      refine lv_iload hx hb dX7_differ_20 (lv_at hl 0 rfl) ?_
      refine lv_if_ne (tgt := 35) hx hb dX7_differ_22 (by decide) (fun c1006 => ?_) (fun c1006 => ?_)
      · have he := ifn he c1006
        exact B35 p1 p2 p3 v1004 SO_0 LE_0 RO_0 he H locs hP hD hS ls (lv_sub hl [1, 2, 3, 4, 0] rfl)
      · have he := ifp he c1006
        refine lv_aload_n hx hb dX7_differ_25 rfl (lv_at hl 1 rfl) ?_
        refine va_get (D := D) (ci := 7) (v := .ref (a 0)) (C := RX7) (T := TX7) (N := 9) hx hb hts iX7 hown hK hP 0 rfl rfl 0 (by decide) w1 (fun _ h9 => h9) rfl dX7_differ_26 ?_
        refine lv_iload_n hx hb dX7_differ_29 rfl (lv_at hl 4 rfl) ?_
        obtain ⟨v1007, h1008, he⟩ := bn1_i he
        refine cVir (As := [.int p3]) (rest := []) ⟨hx, hb, hml, hown, hts⟩ hK hA hP hD hS (mX4_refusalAsHolder l D k a (P := P) h1008) (cwV 1 hts gX7_differ_X4_refusalAsHolder rfl rfl rfl kX4_refusalAsHolder ⟨Nat.le_of_ble_eq_true rfl, Nat.le_of_ble_eq_true rfl⟩) [2, 3, 4, 5, 6, 7, 8, 9, 10, 11] rfl rfl 0 rfl rfl rfl hl.1 rfl (Nat.le_of_ble_eq_true rfl) ⟨Nat.le_refl 0, Nat.le_refl 0⟩ dX7_differ_30 (fun H locs hP hD hS => ?_)
        refine lv_istore (lv' := [(4, .int v1007), (0, .ref (d 0)), (1, .int p1), (2, .int p2), (3, .int p3)]) hx hb dX7_differ_33 hl (by decide) rfl (fun ls hl => ?_)
        exact B35 p1 p2 p3 v1007 SO_0 LE_0 RO_0 he H locs hP hD hS ls (lv_sub hl [1, 2, 3, 4, 0] rfl)
    · have he := ifp he c1003
      refine lv_bipush (v := (-2)) hx hb dX7_differ_7 (by decide) ?_
      obtain ⟨rfl, rfl, rfl, rfl⟩ := some4 he
      exact cRi hx hb hr hlk hK rfl hP hD hS dX7_differ_9
  exact key ss.heap [] rfl rfl hP hS
theorem kX7_apply : yX7_apply.cls = RX7 ∧ yX7_apply.cls ≠ "java/lang/invoke/MethodHandle" ∧ yX7_apply.cls ≠ "java/lang/invoke/VarHandle" ∧ (parseMethodDescriptor yX7_apply.desc).map (fun d => d.parameters.length) = some 3 := by decide +kernel
set_option maxRecDepth 100000 in
set_option maxHeartbeats 4000000 in
theorem mX7_apply (l : Launch) (D : va_G) (k : Nat → ClassId) (d : Nat → Nat) (a : Nat → Nat) (a2 : Nat → Nat) (a3 : Nat → Nat) (h : Nat → Nat) (c : Nat → Nat) (g : Nat → Nat) (t0 : Nat → Nat) (t1 : Nat → Nat) (t2 : Nat → Nat) (t3 : Nat → Nat) (b : Nat) (v : Nat) (o : Nat) (b2 : Nat) {P_0 : Nat → Nat → Int32} {T : Nat → Nat → Int32} {K : Nat → Nat → Int32} {X : Nat → Int32} {Y : Nat → Int32} {C : Nat → Int32} {F : Nat → Int64} {z : Int32} {SO : Nat → Int32} {LE : Nat → Int32} {RO : Nat → Nat → Int64} {hi : Int32} {p1 : Int32} {p2 : Int32} {p3 : Int32} {r : Int32} {P' : Nat → Nat → Int32} (he : xX7_apply SO LE RO P_0 p1 p2 p3 = some (r, P')) : CtI l D k yX7_apply wsX7_apply ({ frames := 5, cells := 0, slots := 0, locals := 123 } : Room) [.ref (d 0), .int p1, .int p2, .int p3] (wMain k d a a2 a3 h c g t0 t1 t2 t3 b v o b2 P_0 T K X Y C F z SO LE RO hi) r (wMain k d a a2 a3 h c g t0 t1 t2 t3 b v o b2 P' T K X Y C F z SO LE RO hi) := by
  intro sz9
  refine cSt (lv := [(0, .ref (d 0)), (1, .int p1), (2, .int p2), (3, .int p3)]) (own := RX7) (cc := cX7_apply) (nL := 5) (ret := (some .int)) (by decide +kernel) rfl rfl (Nat.le_of_ble_eq_true rfl) rfl ?_
  intro pp ee ss mm bl me co hsz hC0 hP hD hS ls hl
  subst hsz
  obtain ⟨hx, hb, hr, hml, hown, hts, hK, hlk⟩ := hC0
  have hA : ∀ q, ss.heap.size ≤ q → va_A (wMain k d a a2 a3 h c g t0 t1 t2 t3 b v o b2 P_0 T K X Y C F z SO LE RO hi) ss.heap.size q := fun q h => Or.inr h
  have iX7 : ∀ w ∈ wsX70, w ∈ wsX7_apply := fun _ h => List.mem_cons_of_mem _ (List.mem_append_left _ (List.mem_append_left _ (List.mem_append_left _ (List.mem_append_right _ h))))
  have w3 := hts (.fieldLink RX7 27 "DeadListPool" "acts" "LDeadListPool$Acts;") (List.mem_of_getElem? (i := 3) rfl)
  have w2 := hts (.fieldLink RX7 56 "DeadListPool" "sheets" "[LDeadListPool$Sheet;") (List.mem_of_getElem? (i := 2) rfl)
  have w1 := hts (.fieldLink RX7 10 "DeadListPool" "pool" "LDeadListPool$Pool;") (List.mem_of_getElem? (i := 1) rfl)
  have B47 : ∀ (x1 : Int32) (x2 : Int32) (x4 : Int32) (P : Nat → Nat → Int32), xX7_apply_47 SO LE RO x1 x2 x4 P = some (r, P') → ∀ (H : Heap) (locs : List Loc), va_P D vwCl (wMain k d a a2 a3 h c g t0 t1 t2 t3 b v o b2 P T K X Y C F z SO LE RO hi) H → va_D (va_A (wMain k d a a2 a3 h c g t0 t1 t2 t3 b v o b2 P_0 T K X Y C F z SO LE RO hi) ss.heap.size) (wMain k d a a2 a3 h c g t0 t1 t2 t3 b v o b2 P T K X Y C F z SO LE RO hi) → va_S (va_A (wMain k d a a2 a3 h c g t0 t1 t2 t3 b v o b2 P_0 T K X Y C F z SO LE RO hi) ss.heap.size) ss.heap H locs → ∀ ls : Array Slot, lv_has ls 5 [(0, .ref (d 0)), (1, .int x1), (2, .int x2), (4, .int x4)] → W pp l ee ({ frames := 5, cells := 0, slots := 0, locals := 123 } : Room) ss mm ([.ref (d 0), .int p1, .int p2, .int p3] : List Value).toArray bl me co H locs 0 0 (MQ bl (cQi D k (wMain k d a a2 a3 h c g t0 t1 t2 t3 b v o b2 P_0 T K X Y C F z SO LE RO hi) ss.heap.size r (wMain k d a a2 a3 h c g t0 t1 t2 t3 b v o b2 P' T K X Y C F z SO LE RO hi)) ([.ref (d 0), .int p1, .int p2, .int p3] : List Value).toArray ss 0 0 (va_A (wMain k d a a2 a3 h c g t0 t1 t2 t3 b v o b2 P_0 T K X Y C F z SO LE RO hi) ss.heap.size)) (F0 mm 47 ls []) := by
    intro x1 x2 x4 P he H locs hP hD hS ls hl
    refine lv_iload hx hb dX7_apply_47 (lv_at hl 3 rfl) ?_
    refine lv_if_eq (tgt := 57) hx hb dX7_apply_49 (by decide) (fun c1 => ?_) (fun c1 => ?_)
    · have he := ifp he c1
      refine lv_aload_n hx hb dX7_apply_57 rfl (lv_at hl 0 rfl) ?_
      refine va_get (D := D) (ci := 7) (v := .ref b) (C := RX7) (T := TX7) (N := 9) hx hb hts iX7 hown hK hP 0 rfl rfl 3 (by decide) w3 (fun _ h9 => h9) rfl dX7_apply_58 ?_
      refine lv_iload_n hx hb dX7_apply_61 rfl (lv_at hl 1 rfl) ?_
      refine lv_aload_n hx hb dX7_apply_62 rfl (lv_at hl 0 rfl) ?_
      refine va_get (D := D) (ci := 7) (v := .ref (d 1)) (C := RX7) (T := TX7) (N := 9) hx hb hts iX7 hown hK hP 0 rfl rfl 7 (by decide) w2 (fun _ h9 => h9) rfl dX7_apply_63 ?_
      refine lv_iload_n hx hb dX7_apply_66 rfl (lv_at hl 2 rfl) ?_
      obtain ⟨h2, he⟩ := grd_i he
      by_cases c6 : x2 = 0
      · have he := ifp he c6
        refine va_aldq hx hb hK hP 1 2 rfl rfl (ix_in h2) dX7_apply_67 ?_
        refine W.eq (g2 := F0 mm 68 ls [.ref (t0 0), .int x1, .ref b]) (by rw [c6]; rfl) ?_
        obtain ⟨v3, P4, h5, he⟩ := bn2_i he
        refine cVi (wf := (wMain k d a a2 a3 h c g t0 t1 t2 t3 b v o b2 P4 T K X Y C F z SO LE RO hi)) (As := [.int x1, .ref (t0 0)]) (rest := []) ⟨hx, hb, hml, hown, hts⟩ hK hA hP hD hS (mX0_carryOver l D k b a t0 (P_0 := P) (so := (SO 0)) (le := (LE 0)) (ro := (RO 0)) h5) (cwV 2 hts gX7_apply_X0_carryOver rfl rfl rfl kX0_carryOver ⟨Nat.le_of_ble_eq_true rfl, Nat.le_of_ble_eq_true rfl⟩) [32, 2, 3, 4, 5, 6, 7, 8, 9, 10, 11, 43, 44] rfl rfl rfl [true, true, false, false, false, false, false, false, false, false, false, false, true, true, true, true, true, true, true, true, true, true, true, true, true, true, true, true, true, true, true, true, false, true, true, true, true, true, true, true, true, true, true, false, false, true, true, true, true, true, true] ⟨rfl, rfl, rfl, rfl, rfl, rfl, rfl, rfl, rfl, rfl, rfl, rfl, rfl, rfl, rfl, rfl, rfl, rfl, rfl, rfl, rfl, rfl, rfl, rfl, rfl, rfl, rfl, rfl, rfl, rfl, rfl, rfl, rfl, rfl, rfl, rfl, rfl, rfl, trivial⟩ 51 rfl (by decide +kernel) rfl 0 rfl rfl rfl hl.1 rfl (Nat.le_of_ble_eq_true rfl) ⟨Nat.le_refl 0, Nat.le_refl 0⟩ dX7_apply_68 (fun H locs hP hD hS => ?_)
        obtain ⟨rfl, rfl⟩ := some2 he
        exact cRi hx hb hr hlk hK rfl hP hD hS dX7_apply_71
      · have he := ifn he c6
        by_cases c11 : x2 = 1
        · have he := ifp he c11
          refine va_aldq hx hb hK hP 1 2 rfl rfl (ix_in h2) dX7_apply_67 ?_
          refine W.eq (g2 := F0 mm 68 ls [.ref (t1 0), .int x1, .ref b]) (by rw [c11]; rfl) ?_
          obtain ⟨v8, P9, h10, he⟩ := bn2_i he
          refine cVi (wf := (wMain k d a a2 a3 h c g t0 t1 t2 t3 b v o b2 P9 T K X Y C F z SO LE RO hi)) (As := [.int x1, .ref (t1 0)]) (rest := []) ⟨hx, hb, hml, hown, hts⟩ hK hA hP hD hS (mX0_carryOver l D k b a t1 (P_0 := P) (so := (SO 1)) (le := (LE 1)) (ro := (RO 1)) h10) (cwV 2 hts gX7_apply_X0_carryOver rfl rfl rfl kX0_carryOver ⟨Nat.le_of_ble_eq_true rfl, Nat.le_of_ble_eq_true rfl⟩) [32, 2, 3, 4, 5, 6, 7, 8, 9, 10, 11, 45, 46] rfl rfl rfl [true, true, false, false, false, false, false, false, false, false, false, false, true, true, true, true, true, true, true, true, true, true, true, true, true, true, true, true, true, true, true, true, false, true, true, true, true, true, true, true, true, true, true, true, true, false, false, true, true, true, true] ⟨rfl, rfl, rfl, rfl, rfl, rfl, rfl, rfl, rfl, rfl, rfl, rfl, rfl, rfl, rfl, rfl, rfl, rfl, rfl, rfl, rfl, rfl, rfl, rfl, rfl, rfl, rfl, rfl, rfl, rfl, rfl, rfl, rfl, rfl, rfl, rfl, rfl, rfl, trivial⟩ 51 rfl (by decide +kernel) rfl 0 rfl rfl rfl hl.1 rfl (Nat.le_of_ble_eq_true rfl) ⟨Nat.le_refl 0, Nat.le_refl 0⟩ dX7_apply_68 (fun H locs hP hD hS => ?_)
          obtain ⟨rfl, rfl⟩ := some2 he
          exact cRi hx hb hr hlk hK rfl hP hD hS dX7_apply_71
        · have he := ifn he c11
          by_cases c16 : x2 = 2
          · have he := ifp he c16
            refine va_aldq hx hb hK hP 1 2 rfl rfl (ix_in h2) dX7_apply_67 ?_
            refine W.eq (g2 := F0 mm 68 ls [.ref (t2 0), .int x1, .ref b]) (by rw [c16]; rfl) ?_
            obtain ⟨v13, P14, h15, he⟩ := bn2_i he
            refine cVi (wf := (wMain k d a a2 a3 h c g t0 t1 t2 t3 b v o b2 P14 T K X Y C F z SO LE RO hi)) (As := [.int x1, .ref (t2 0)]) (rest := []) ⟨hx, hb, hml, hown, hts⟩ hK hA hP hD hS (mX0_carryOver l D k b a t2 (P_0 := P) (so := (SO 2)) (le := (LE 2)) (ro := (RO 2)) h15) (cwV 2 hts gX7_apply_X0_carryOver rfl rfl rfl kX0_carryOver ⟨Nat.le_of_ble_eq_true rfl, Nat.le_of_ble_eq_true rfl⟩) [32, 2, 3, 4, 5, 6, 7, 8, 9, 10, 11, 47, 48] rfl rfl rfl [true, true, false, false, false, false, false, false, false, false, false, false, true, true, true, true, true, true, true, true, true, true, true, true, true, true, true, true, true, true, true, true, false, true, true, true, true, true, true, true, true, true, true, true, true, true, true, false, false, true, true] ⟨rfl, rfl, rfl, rfl, rfl, rfl, rfl, rfl, rfl, rfl, rfl, rfl, rfl, rfl, rfl, rfl, rfl, rfl, rfl, rfl, rfl, rfl, rfl, rfl, rfl, rfl, rfl, rfl, rfl, rfl, rfl, rfl, rfl, rfl, rfl, rfl, rfl, rfl, trivial⟩ 51 rfl (by decide +kernel) rfl 0 rfl rfl rfl hl.1 rfl (Nat.le_of_ble_eq_true rfl) ⟨Nat.le_refl 0, Nat.le_refl 0⟩ dX7_apply_68 (fun H locs hP hD hS => ?_)
            obtain ⟨rfl, rfl⟩ := some2 he
            exact cRi hx hb hr hlk hK rfl hP hD hS dX7_apply_71
          · have he := ifn he c16
            have c17 : x2 = 3 := ix4 h2 c6 c11 c16
            refine va_aldq hx hb hK hP 1 2 rfl rfl (ix_in h2) dX7_apply_67 ?_
            refine W.eq (g2 := F0 mm 68 ls [.ref (t3 0), .int x1, .ref b]) (by rw [c17]; rfl) ?_
            obtain ⟨v18, P19, h20, he⟩ := bn2_i he
            refine cVi (wf := (wMain k d a a2 a3 h c g t0 t1 t2 t3 b v o b2 P19 T K X Y C F z SO LE RO hi)) (As := [.int x1, .ref (t3 0)]) (rest := []) ⟨hx, hb, hml, hown, hts⟩ hK hA hP hD hS (mX0_carryOver l D k b a t3 (P_0 := P) (so := (SO 3)) (le := (LE 3)) (ro := (RO 3)) h20) (cwV 2 hts gX7_apply_X0_carryOver rfl rfl rfl kX0_carryOver ⟨Nat.le_of_ble_eq_true rfl, Nat.le_of_ble_eq_true rfl⟩) [32, 2, 3, 4, 5, 6, 7, 8, 9, 10, 11, 49, 50] rfl rfl rfl [true, true, false, false, false, false, false, false, false, false, false, false, true, true, true, true, true, true, true, true, true, true, true, true, true, true, true, true, true, true, true, true, false, true, true, true, true, true, true, true, true, true, true, true, true, true, true, true, true, false, false] ⟨rfl, rfl, rfl, rfl, rfl, rfl, rfl, rfl, rfl, rfl, rfl, rfl, rfl, rfl, rfl, rfl, rfl, rfl, rfl, rfl, rfl, rfl, rfl, rfl, rfl, rfl, rfl, rfl, rfl, rfl, rfl, rfl, rfl, rfl, rfl, rfl, rfl, rfl, trivial⟩ 51 rfl (by decide +kernel) rfl 0 rfl rfl rfl hl.1 rfl (Nat.le_of_ble_eq_true rfl) ⟨Nat.le_refl 0, Nat.le_refl 0⟩ dX7_apply_68 (fun H locs hP hD hS => ?_)
            obtain ⟨rfl, rfl⟩ := some2 he
            exact cRi hx hb hr hlk hK rfl hP hD hS dX7_apply_71
    · have he := ifn he c1
      refine lv_iload hx hb dX7_apply_52 (lv_at hl 3 rfl) ?_
      refine lv_goto (tgt := 71) hx hb dX7_apply_54 (by decide) ?_
      obtain ⟨rfl, rfl⟩ := some2 he
      exact cRi hx hb hr hlk hK rfl hP hD hS dX7_apply_71
  have hS0 := hS
  have key : ∀ (H : Heap) (locs : List Loc), H = ss.heap → locs = [] → va_P D vwCl (wMain k d a a2 a3 h c g t0 t1 t2 t3 b v o b2 P_0 T K X Y C F z SO LE RO hi) H → va_S (va_A (wMain k d a a2 a3 h c g t0 t1 t2 t3 b v o b2 P_0 T K X Y C F z SO LE RO hi) ss.heap.size) ss.heap H locs → W pp l ee ({ frames := 5, cells := 0, slots := 0, locals := 123 } : Room) ss mm ([.ref (d 0), .int p1, .int p2, .int p3] : List Value).toArray bl me co H locs 0 0 (MQ bl (cQi D k (wMain k d a a2 a3 h c g t0 t1 t2 t3 b v o b2 P_0 T K X Y C F z SO LE RO hi) ss.heap.size r (wMain k d a a2 a3 h c g t0 t1 t2 t3 b v o b2 P' T K X Y C F z SO LE RO hi)) ([.ref (d 0), .int p1, .int p2, .int p3] : List Value).toArray ss 0 0 (va_A (wMain k d a a2 a3 h c g t0 t1 t2 t3 b v o b2 P_0 T K X Y C F z SO LE RO hi) ss.heap.size)) (F0 mm 0 ls []) := by
    intro H locs _ _ hP hS
    refine lv_iload_n hx hb dX7_apply_0 rfl (lv_at hl 2 rfl) ?_
    obtain ⟨v1001, h1002, he⟩ := bn1_i he
    refine cSi (rest := []) ⟨hx, hb, hml, hown, hts⟩ hK hA hP hD hS (mX7_isSheet l D k h1002) (cwS 1 hts gX7_apply_X7_isSheet rfl rfl rfl kX7_isSheet ⟨Nat.le_of_ble_eq_true rfl, Nat.le_of_ble_eq_true rfl⟩) rfl hl.1 rfl (Nat.le_of_ble_eq_true rfl) ⟨Nat.le_refl 0, Nat.le_refl 0⟩ dX7_apply_1 (fun H locs hP hD hS => ?_)
    refine lv_if_eq (tgt := 16) hx hb dX7_apply_4 (by decide) (fun c1003 => ?_) (fun c1003 => ?_)
    · have he := ifp he c1003
      refine lv_bipush (v := (-2)) hx hb dX7_apply_16 (by decide) ?_
      obtain ⟨rfl, rfl⟩ := some2 he
      exact cRi hx hb hr hlk hK rfl hP hD hS dX7_apply_18
    · have he := ifn he c1003
      refine lv_iload_n hx hb dX7_apply_7 rfl (lv_at hl 3 rfl) ?_
      refine lv_if_lt (tgt := 16) hx hb dX7_apply_8 (by decide) (fun c1004 => ?_) (fun c1004 => ?_)
      · have he := ifp he c1004
        refine lv_bipush (v := (-2)) hx hb dX7_apply_16 (by decide) ?_
        obtain ⟨rfl, rfl⟩ := some2 he
        exact cRi hx hb hr hlk hK rfl hP hD hS dX7_apply_18
      · have he := ifn he c1004
        refine lv_iload_n hx hb dX7_apply_11 rfl (lv_at hl 3 rfl) ?_
        refine lv_iconst (v := 1) hx hb dX7_apply_12 (by decide) ?_
        refine lv_icmp_le (tgt := 19) hx hb dX7_apply_13 (by decide) (fun c1005 => ?_) (fun c1005 => ?_)
        · have he := ifp he c1005
          refine lv_aload_n hx hb dX7_apply_19 rfl (lv_at hl 0 rfl) ?_
          refine va_get (D := D) (ci := 7) (v := .ref (a 0)) (C := RX7) (T := TX7) (N := 9) hx hb hts iX7 hown hK hP 0 rfl rfl 0 (by decide) w1 (fun _ h9 => h9) rfl dX7_apply_20 ?_
          refine lv_iload_n hx hb dX7_apply_23 rfl (lv_at hl 1 rfl) ?_
          refine lv_iconst (v := 0) hx hb dX7_apply_24 (by decide) ?_
          obtain ⟨v1006, h1007, he⟩ := bn1_i he
          refine cVir (As := [.int p1, .int 0]) (rest := []) ⟨hx, hb, hml, hown, hts⟩ hK hA hP hD hS (mX4_refusalAs l D k a (P := P_0) h1007) (cwV 2 hts gX7_apply_X4_refusalAs rfl rfl rfl kX4_refusalAs ⟨Nat.le_of_ble_eq_true rfl, Nat.le_of_ble_eq_true rfl⟩) [2, 3, 4, 5, 6, 7, 8, 9, 10, 11] rfl rfl 0 rfl rfl rfl hl.1 rfl (Nat.le_of_ble_eq_true rfl) ⟨Nat.le_refl 0, Nat.le_refl 0⟩ dX7_apply_25 (fun H locs hP hD hS => ?_)
          refine lv_istore (lv' := [(4, .int v1006), (0, .ref (d 0)), (1, .int p1), (2, .int p2), (3, .int p3)]) hx hb dX7_apply_28 hl (by decide) rfl (fun ls hl => ?_)
          refine lv_iload hx hb dX7_apply_30 (lv_at hl 0 rfl) ?_
          refine lv_if_ne (tgt := 47) hx hb dX7_apply_32 (by decide) (fun c1008 => ?_) (fun c1008 => ?_)
          · have he := ifn he c1008
            exact B47 p1 p2 v1006 P_0 he H locs hP hD hS ls (lv_sub hl [1, 2, 3, 0] rfl)
          · have he := ifp he c1008
            refine lv_aload_n hx hb dX7_apply_35 rfl (lv_at hl 1 rfl) ?_
            refine va_get (D := D) (ci := 7) (v := .ref (d 1)) (C := RX7) (T := TX7) (N := 9) hx hb hts iX7 hown hK hP 0 rfl rfl 7 (by decide) w2 (fun _ h9 => h9) rfl dX7_apply_36 ?_
            refine lv_iload_n hx hb dX7_apply_39 rfl (lv_at hl 3 rfl) ?_
            obtain ⟨h1009, he⟩ := grd_i he
            by_cases c1012 : p2 = 0
            · have he := ifp he c1012
              refine va_aldq hx hb hK hP 1 2 rfl rfl (ix_in h1009) dX7_apply_40 ?_
              refine W.eq (g2 := F0 mm 41 ls [.ref (t0 0)]) (by rw [c1012]; rfl) ?_
              refine lv_iload_n hx hb dX7_apply_41 rfl (lv_at hl 4 rfl) ?_
              obtain ⟨v1010, h1011, he⟩ := bn1_i he
              refine cVir (As := [.int p3]) (rest := []) ⟨hx, hb, hml, hown, hts⟩ hK hA hP hD hS (mX5_refusalAsSort l D k t0 (so := (SO 0)) (le := (LE 0)) (ro := (RO 0)) h1011) (cwV 1 hts gX7_apply_X5_refusalAsSort rfl rfl rfl kX5_refusalAsSort ⟨Nat.le_of_ble_eq_true rfl, Nat.le_of_ble_eq_true rfl⟩) [43, 44] rfl rfl 0 rfl rfl rfl hl.1 rfl (Nat.le_of_ble_eq_true rfl) ⟨Nat.le_refl 0, Nat.le_refl 0⟩ dX7_apply_42 (fun H locs hP hD hS => ?_)
              refine lv_istore (lv' := [(4, .int v1010), (0, .ref (d 0)), (1, .int p1), (2, .int p2), (3, .int p3)]) hx hb dX7_apply_45 hl (by decide) rfl (fun ls hl => ?_)
              exact B47 p1 p2 v1010 P_0 he H locs hP hD hS ls (lv_sub hl [1, 2, 3, 0] rfl)
            · have he := ifn he c1012
              by_cases c1016 : p2 = 1
              · have he := ifp he c1016
                refine va_aldq hx hb hK hP 1 2 rfl rfl (ix_in h1009) dX7_apply_40 ?_
                refine W.eq (g2 := F0 mm 41 ls [.ref (t1 0)]) (by rw [c1016]; rfl) ?_
                refine lv_iload_n hx hb dX7_apply_41 rfl (lv_at hl 4 rfl) ?_
                obtain ⟨v1014, h1015, he⟩ := bn1_i he
                refine cVir (As := [.int p3]) (rest := []) ⟨hx, hb, hml, hown, hts⟩ hK hA hP hD hS (mX5_refusalAsSort l D k t1 (so := (SO 1)) (le := (LE 1)) (ro := (RO 1)) h1015) (cwV 1 hts gX7_apply_X5_refusalAsSort rfl rfl rfl kX5_refusalAsSort ⟨Nat.le_of_ble_eq_true rfl, Nat.le_of_ble_eq_true rfl⟩) [45, 46] rfl rfl 0 rfl rfl rfl hl.1 rfl (Nat.le_of_ble_eq_true rfl) ⟨Nat.le_refl 0, Nat.le_refl 0⟩ dX7_apply_42 (fun H locs hP hD hS => ?_)
                refine lv_istore (lv' := [(4, .int v1014), (0, .ref (d 0)), (1, .int p1), (2, .int p2), (3, .int p3)]) hx hb dX7_apply_45 hl (by decide) rfl (fun ls hl => ?_)
                exact B47 p1 p2 v1014 P_0 he H locs hP hD hS ls (lv_sub hl [1, 2, 3, 0] rfl)
              · have he := ifn he c1016
                by_cases c1020 : p2 = 2
                · have he := ifp he c1020
                  refine va_aldq hx hb hK hP 1 2 rfl rfl (ix_in h1009) dX7_apply_40 ?_
                  refine W.eq (g2 := F0 mm 41 ls [.ref (t2 0)]) (by rw [c1020]; rfl) ?_
                  refine lv_iload_n hx hb dX7_apply_41 rfl (lv_at hl 4 rfl) ?_
                  obtain ⟨v1018, h1019, he⟩ := bn1_i he
                  refine cVir (As := [.int p3]) (rest := []) ⟨hx, hb, hml, hown, hts⟩ hK hA hP hD hS (mX5_refusalAsSort l D k t2 (so := (SO 2)) (le := (LE 2)) (ro := (RO 2)) h1019) (cwV 1 hts gX7_apply_X5_refusalAsSort rfl rfl rfl kX5_refusalAsSort ⟨Nat.le_of_ble_eq_true rfl, Nat.le_of_ble_eq_true rfl⟩) [47, 48] rfl rfl 0 rfl rfl rfl hl.1 rfl (Nat.le_of_ble_eq_true rfl) ⟨Nat.le_refl 0, Nat.le_refl 0⟩ dX7_apply_42 (fun H locs hP hD hS => ?_)
                  refine lv_istore (lv' := [(4, .int v1018), (0, .ref (d 0)), (1, .int p1), (2, .int p2), (3, .int p3)]) hx hb dX7_apply_45 hl (by decide) rfl (fun ls hl => ?_)
                  exact B47 p1 p2 v1018 P_0 he H locs hP hD hS ls (lv_sub hl [1, 2, 3, 0] rfl)
                · have he := ifn he c1020
                  have c1021 : p2 = 3 := ix4 h1009 c1012 c1016 c1020
                  refine va_aldq hx hb hK hP 1 2 rfl rfl (ix_in h1009) dX7_apply_40 ?_
                  refine W.eq (g2 := F0 mm 41 ls [.ref (t3 0)]) (by rw [c1021]; rfl) ?_
                  refine lv_iload_n hx hb dX7_apply_41 rfl (lv_at hl 4 rfl) ?_
                  obtain ⟨v1022, h1023, he⟩ := bn1_i he
                  refine cVir (As := [.int p3]) (rest := []) ⟨hx, hb, hml, hown, hts⟩ hK hA hP hD hS (mX5_refusalAsSort l D k t3 (so := (SO 3)) (le := (LE 3)) (ro := (RO 3)) h1023) (cwV 1 hts gX7_apply_X5_refusalAsSort rfl rfl rfl kX5_refusalAsSort ⟨Nat.le_of_ble_eq_true rfl, Nat.le_of_ble_eq_true rfl⟩) [49, 50] rfl rfl 0 rfl rfl rfl hl.1 rfl (Nat.le_of_ble_eq_true rfl) ⟨Nat.le_refl 0, Nat.le_refl 0⟩ dX7_apply_42 (fun H locs hP hD hS => ?_)
                  refine lv_istore (lv' := [(4, .int v1022), (0, .ref (d 0)), (1, .int p1), (2, .int p2), (3, .int p3)]) hx hb dX7_apply_45 hl (by decide) rfl (fun ls hl => ?_)
                  exact B47 p1 p2 v1022 P_0 he H locs hP hD hS ls (lv_sub hl [1, 2, 3, 0] rfl)
        · have he := ifn he c1005
          refine lv_bipush (v := (-2)) hx hb dX7_apply_16 (by decide) ?_
          obtain ⟨rfl, rfl⟩ := some2 he
          exact cRi hx hb hr hlk hK rfl hP hD hS dX7_apply_18
  exact key ss.heap [] rfl rfl hP hS
theorem kX7_drawn : yX7_drawn.cls = RX7 ∧ yX7_drawn.cls ≠ "java/lang/invoke/MethodHandle" ∧ yX7_drawn.cls ≠ "java/lang/invoke/VarHandle" ∧ (parseMethodDescriptor yX7_drawn.desc).map (fun d => d.parameters.length) = some 3 := by decide +kernel
set_option maxRecDepth 100000 in
set_option maxHeartbeats 4000000 in
theorem mX7_drawn (l : Launch) (D : va_G) (k : Nat → ClassId) (d : Nat → Nat) (a : Nat → Nat) (a2 : Nat → Nat) (a3 : Nat → Nat) (h : Nat → Nat) (c : Nat → Nat) (g : Nat → Nat) (t0 : Nat → Nat) (t1 : Nat → Nat) (t2 : Nat → Nat) (t3 : Nat → Nat) (b : Nat) (v : Nat) (o : Nat) (b2 : Nat) {P : Nat → Nat → Int32} {T_0 : Nat → Nat → Int32} {K : Nat → Nat → Int32} {X : Nat → Int32} {Y : Nat → Int32} {C : Nat → Int32} {F : Nat → Int64} {z_0 : Int32} {SO : Nat → Int32} {LE : Nat → Int32} {RO : Nat → Nat → Int64} {hi : Int32} {p1 : Int32} {p2 : Int32} {p3 : Int32} {r : Int64} {T' : Nat → Nat → Int32} {z' : Int32} (he : xX7_drawn P T_0 z_0 p1 p2 p3 = some (r, T', z')) : CtL l D k yX7_drawn wsX7_drawn ({ frames := 6, cells := 0, slots := 0, locals := 147 } : Room) [.ref (d 0), .int p1, .int p2, .int p3] (wMain k d a a2 a3 h c g t0 t1 t2 t3 b v o b2 P T_0 K X Y C F z_0 SO LE RO hi) r (wMain k d a a2 a3 h c g t0 t1 t2 t3 b v o b2 P T' K X Y C F z' SO LE RO hi) := by
  intro sz9
  refine cSt (lv := [(0, .ref (d 0)), (1, .int p1), (2, .int p2), (3, .int p3)]) (own := RX7) (cc := cX7_drawn) (nL := 4) (ret := (some .long)) (by decide +kernel) rfl rfl (Nat.le_of_ble_eq_true rfl) rfl ?_
  intro pp ee ss mm bl me co hsz hC0 hP hD hS ls hl
  subst hsz
  obtain ⟨hx, hb, hr, hml, hown, hts, hK, hlk⟩ := hC0
  have hA : ∀ q, ss.heap.size ≤ q → va_A (wMain k d a a2 a3 h c g t0 t1 t2 t3 b v o b2 P T_0 K X Y C F z_0 SO LE RO hi) ss.heap.size q := fun q h => Or.inr h
  have w1 := hts (.constantLong RX7 129 (-4611686018427387904)) (List.mem_of_getElem? (i := 1) rfl)
  have iX7 : ∀ w ∈ wsX70, w ∈ wsX7_drawn := fun _ h => List.mem_cons_of_mem _ (List.mem_append_left _ (List.mem_append_left _ (List.mem_append_left _ (List.mem_append_right _ h))))
  have w2 := hts (.fieldLink RX7 16 "DeadListPool" "thought" "LDeadListPool$Pool;") (List.mem_of_getElem? (i := 2) rfl)
  have w3 := hts (.fieldLink RX7 10 "DeadListPool" "pool" "LDeadListPool$Pool;") (List.mem_of_getElem? (i := 3) rfl)
  have w4 := hts (.fieldLink RX7 50 "DeadListPool" "lot" "LDeadListPool$Lot;") (List.mem_of_getElem? (i := 4) rfl)
  have hS0 := hS
  have key : ∀ (H : Heap) (locs : List Loc), H = ss.heap → locs = [] → va_P D vwCl (wMain k d a a2 a3 h c g t0 t1 t2 t3 b v o b2 P T_0 K X Y C F z_0 SO LE RO hi) H → va_S (va_A (wMain k d a a2 a3 h c g t0 t1 t2 t3 b v o b2 P T_0 K X Y C F z_0 SO LE RO hi) ss.heap.size) ss.heap H locs → W pp l ee ({ frames := 6, cells := 0, slots := 0, locals := 147 } : Room) ss mm ([.ref (d 0), .int p1, .int p2, .int p3] : List Value).toArray bl me co H locs 0 0 (MQ bl (cQl D k (wMain k d a a2 a3 h c g t0 t1 t2 t3 b v o b2 P T_0 K X Y C F z_0 SO LE RO hi) ss.heap.size r (wMain k d a a2 a3 h c g t0 t1 t2 t3 b v o b2 P T' K X Y C F z' SO LE RO hi)) ([.ref (d 0), .int p1, .int p2, .int p3] : List Value).toArray ss 0 0 (va_A (wMain k d a a2 a3 h c g t0 t1 t2 t3 b v o b2 P T_0 K X Y C F z_0 SO LE RO hi) ss.heap.size)) (F0 mm 0 ls []) := by
    intro H locs _ _ hP hS
    refine lv_iload_n hx hb dX7_drawn_0 rfl (lv_at hl 2 rfl) ?_
    refine lv_if_lt (tgt := 19) hx hb dX7_drawn_1 (by decide) (fun c1001 => ?_) (fun c1001 => ?_)
    · have he := ifp he c1001
      refine lv_ldc2 hx hb hown w1 dX7_drawn_19 ?_
      obtain ⟨rfl, rfl, rfl⟩ := some3 he
      exact cRl hx hb hr hlk hK hP hD hS dX7_drawn_22
    · have he := ifn he c1001
      refine lv_iload_n hx hb dX7_drawn_4 rfl (lv_at hl 2 rfl) ?_
      refine lv_bipush (v := 60) hx hb dX7_drawn_5 (by decide) ?_
      refine lv_icmp_gt (tgt := 19) hx hb dX7_drawn_7 (by decide) (fun c1002 => ?_) (fun c1002 => ?_)
      · have he := ifp he c1002
        refine lv_ldc2 hx hb hown w1 dX7_drawn_19 ?_
        obtain ⟨rfl, rfl, rfl⟩ := some3 he
        exact cRl hx hb hr hlk hK hP hD hS dX7_drawn_22
      · have he := ifn he c1002
        refine lv_iload_n hx hb dX7_drawn_10 rfl (lv_at hl 3 rfl) ?_
        refine lv_if_lt (tgt := 19) hx hb dX7_drawn_11 (by decide) (fun c1003 => ?_) (fun c1003 => ?_)
        · have he := ifp he c1003
          refine lv_ldc2 hx hb hown w1 dX7_drawn_19 ?_
          obtain ⟨rfl, rfl, rfl⟩ := some3 he
          exact cRl hx hb hr hlk hK hP hD hS dX7_drawn_22
        · have he := ifn he c1003
          refine lv_iload_n hx hb dX7_drawn_14 rfl (lv_at hl 3 rfl) ?_
          refine lv_iconst (v := 3) hx hb dX7_drawn_15 (by decide) ?_
          refine lv_icmp_le (tgt := 23) hx hb dX7_drawn_16 (by decide) (fun c1004 => ?_) (fun c1004 => ?_)
          · have he := ifp he c1004
            refine lv_aload_n hx hb dX7_drawn_23 rfl (lv_at hl 0 rfl) ?_
            refine va_get (D := D) (ci := 7) (v := .ref (a2 0)) (C := RX7) (T := TX7) (N := 9) hx hb hts iX7 hown hK hP 0 rfl rfl 1 (by decide) w2 (fun _ h9 => h9) rfl dX7_drawn_24 ?_
            refine lv_aload_n hx hb dX7_drawn_27 rfl (lv_at hl 0 rfl) ?_
            refine va_get (D := D) (ci := 7) (v := .ref (a 0)) (C := RX7) (T := TX7) (N := 9) hx hb hts iX7 hown hK hP 0 rfl rfl 0 (by decide) w3 (fun _ h9 => h9) rfl dX7_drawn_28 ?_
            obtain ⟨T1005, h1006, he⟩ := bn1_i he
            refine cVv (wf := (wMain k d a a2 a3 h c g t0 t1 t2 t3 b v o b2 P T1005 K X Y C F z_0 SO LE RO hi)) (As := [.ref (a 0)]) (rest := []) ⟨hx, hb, hml, hown, hts⟩ hK hA hP hD hS (mX4_copyFrom l D k a2 a (P_0 := T_0) (O := P) h1006) (cwV 1 hts gX7_drawn_X4_copyFrom rfl rfl rfl kX4_copyFrom ⟨Nat.le_of_ble_eq_true rfl, Nat.le_of_ble_eq_true rfl⟩) [12, 13, 14, 15, 16, 17, 18, 19, 20, 21, 2, 3, 4, 5, 6, 7, 8, 9, 10, 11] rfl rfl rfl [true, true, false, false, false, false, false, false, false, false, false, false, false, false, false, false, false, false, false, false, false, false, true, true, true, true, true, true, true, true, true, true, true, true, true, true, true, true, true, true, true, true, true, true, true, true, true, true, true, true, true] ⟨rfl, rfl, rfl, rfl, rfl, rfl, rfl, rfl, rfl, rfl, rfl, rfl, rfl, rfl, rfl, rfl, rfl, rfl, rfl, rfl, rfl, rfl, rfl, rfl, rfl, rfl, rfl, rfl, rfl, rfl, rfl, trivial⟩ 51 rfl (by decide +kernel) rfl 0 rfl rfl rfl hl.1 rfl (Nat.le_of_ble_eq_true rfl) ⟨Nat.le_refl 0, Nat.le_refl 0⟩ dX7_drawn_31 (fun H locs hP hD hS => ?_)
            refine lv_aload_n hx hb dX7_drawn_34 rfl (lv_at hl 0 rfl) ?_
            refine va_get (D := D) (ci := 7) (v := .ref o) (C := RX7) (T := TX7) (N := 9) hx hb hts iX7 hown hK hP 0 rfl rfl 6 (by decide) w4 (fun _ h9 => h9) rfl dX7_drawn_35 ?_
            refine lv_iload_n hx hb dX7_drawn_38 rfl (lv_at hl 1 rfl) ?_
            refine lv_iload_n hx hb dX7_drawn_39 rfl (lv_at hl 2 rfl) ?_
            obtain ⟨T1007, z1008, h1009, he⟩ := bn2_i he
            refine cVv (wf := (wMain k d a a2 a3 h c g t0 t1 t2 t3 b v o b2 P T1007 K X Y C F z1008 SO LE RO hi)) (As := [.int p1, .int p2]) (rest := []) ⟨hx, hb, hml, hown, hts⟩ hK hA hP hD hS (mX3_play l D k o b2 a2 (P_0 := T1005) (z_0 := z_0) h1009) (cwV 2 hts gX7_drawn_X3_play rfl rfl rfl kX3_play ⟨Nat.le_of_ble_eq_true rfl, Nat.le_of_ble_eq_true rfl⟩) [41, 42, 12, 13, 14, 15, 16, 17, 18, 19, 20, 21] rfl rfl rfl [true, true, true, true, true, true, true, true, true, true, true, true, false, false, false, false, false, false, false, false, false, false, true, true, true, true, true, true, true, true, true, true, true, true, true, true, true, true, true, true, true, false, false, true, true, true, true, true, true, true, true] ⟨rfl, rfl, rfl, rfl, rfl, rfl, rfl, rfl, rfl, rfl, rfl, rfl, rfl, rfl, rfl, rfl, rfl, rfl, rfl, rfl, rfl, rfl, rfl, rfl, rfl, rfl, rfl, rfl, rfl, rfl, rfl, rfl, rfl, rfl, rfl, rfl, rfl, rfl, rfl, trivial⟩ 51 rfl (by decide +kernel) rfl 0 rfl rfl rfl hl.1 rfl (Nat.le_of_ble_eq_true rfl) ⟨Nat.le_refl 0, Nat.le_refl 0⟩ dX7_drawn_40 (fun H locs hP hD hS => ?_)
            refine lv_iload_n hx hb dX7_drawn_43 rfl (lv_at hl 3 rfl) ?_
            by_cases c1010 : p3 = 0
            · have he := ifp he c1010
              refine lv_tableIn (off := 28) (tgt := 72) hx hb dX7_drawn_44 (by rw [c1010]; decide) (by rw [c1010]; decide) (by rw [c1010]; rfl) (by decide) ?_
              refine lv_aload_n hx hb dX7_drawn_72 rfl (lv_at hl 0 rfl) ?_
              refine va_get (D := D) (ci := 7) (v := .ref (a2 0)) (C := RX7) (T := TX7) (N := 9) hx hb hts iX7 hown hK hP 0 rfl rfl 1 (by decide) w2 (fun _ h9 => h9) rfl dX7_drawn_73 ?_
              obtain ⟨v1011, h1012, he⟩ := bn1_i he
              refine cVir (As := []) (rest := []) ⟨hx, hb, hml, hown, hts⟩ hK hA hP hD hS (mX4_thingCount l D k a2 (P := T1007) h1012) (cwV 0 hts gX7_drawn_X4_thingCount rfl rfl rfl kX4_thingCount ⟨Nat.le_of_ble_eq_true rfl, Nat.le_of_ble_eq_true rfl⟩) [12, 13, 14, 15, 16, 17, 18, 19, 20, 21] rfl rfl 0 rfl rfl rfl hl.1 rfl (Nat.le_of_ble_eq_true rfl) ⟨Nat.le_refl 0, Nat.le_refl 0⟩ dX7_drawn_76 (fun H locs hP hD hS => ?_)
              refine lv_i2l (v := (Int32.toInt64 v1011)) hx hb dX7_drawn_79 rfl ?_
              obtain ⟨rfl, rfl, rfl⟩ := some3 he
              exact cRl hx hb hr hlk hK hP hD hS dX7_drawn_80
            · have he := ifn he c1010
              by_cases c1013 : p3 = 1
              · have he := ifp he c1013
                refine lv_tableIn (off := 37) (tgt := 81) hx hb dX7_drawn_44 (by rw [c1013]; decide) (by rw [c1013]; decide) (by rw [c1013]; rfl) (by decide) ?_
                refine lv_aload_n hx hb dX7_drawn_81 rfl (lv_at hl 0 rfl) ?_
                refine va_get (D := D) (ci := 7) (v := .ref (a2 0)) (C := RX7) (T := TX7) (N := 9) hx hb hts iX7 hown hK hP 0 rfl rfl 1 (by decide) w2 (fun _ h9 => h9) rfl dX7_drawn_82 ?_
                obtain ⟨v1014, h1015, he⟩ := bn1_i he
                refine cVir (As := []) (rest := []) ⟨hx, hb, hml, hown, hts⟩ hK hA hP hD hS (mX4_blockCount l D k a2 (P := T1007) h1015) (cwV 0 hts gX7_drawn_X4_blockCount rfl rfl rfl kX4_blockCount ⟨Nat.le_of_ble_eq_true rfl, Nat.le_of_ble_eq_true rfl⟩) [12, 13, 14, 15, 16, 17, 18, 19, 20, 21] rfl rfl 0 rfl rfl rfl hl.1 rfl (Nat.le_of_ble_eq_true rfl) ⟨Nat.le_refl 0, Nat.le_refl 0⟩ dX7_drawn_85 (fun H locs hP hD hS => ?_)
                refine lv_i2l (v := (Int32.toInt64 v1014)) hx hb dX7_drawn_88 rfl ?_
                obtain ⟨rfl, rfl, rfl⟩ := some3 he
                exact cRl hx hb hr hlk hK hP hD hS dX7_drawn_89
              · have he := ifn he c1013
                by_cases c1016 : p3 = 2
                · have he := ifp he c1016
                  refine lv_tableIn (off := 46) (tgt := 90) hx hb dX7_drawn_44 (by rw [c1016]; decide) (by rw [c1016]; decide) (by rw [c1016]; rfl) (by decide) ?_
                  refine lv_aload_n hx hb dX7_drawn_90 rfl (lv_at hl 0 rfl) ?_
                  refine va_get (D := D) (ci := 7) (v := .ref (a2 0)) (C := RX7) (T := TX7) (N := 9) hx hb hts iX7 hown hK hP 0 rfl rfl 1 (by decide) w2 (fun _ h9 => h9) rfl dX7_drawn_91 ?_
                  obtain ⟨v1017, h1018, he⟩ := bn1_i he
                  refine cVir (As := []) (rest := []) ⟨hx, hb, hml, hown, hts⟩ hK hA hP hD hS (mX4_freedCount l D k a2 (P := T1007) h1018) (cwV 0 hts gX7_drawn_X4_freedCount rfl rfl rfl kX4_freedCount ⟨Nat.le_of_ble_eq_true rfl, Nat.le_of_ble_eq_true rfl⟩) [12, 13, 14, 15, 16, 17, 18, 19, 20, 21] rfl rfl 0 rfl rfl rfl hl.1 rfl (Nat.le_of_ble_eq_true rfl) ⟨Nat.le_refl 0, Nat.le_refl 0⟩ dX7_drawn_94 (fun H locs hP hD hS => ?_)
                  refine lv_aload_n hx hb dX7_drawn_97 rfl (lv_at hl 0 rfl) ?_
                  refine va_get (D := D) (ci := 7) (v := .ref (a 0)) (C := RX7) (T := TX7) (N := 9) hx hb hts iX7 hown hK hP 0 rfl rfl 0 (by decide) w3 (fun _ h9 => h9) rfl dX7_drawn_98 ?_
                  obtain ⟨v1019, h1020, he⟩ := bn1_i he
                  refine cVir (As := []) (rest := [.int v1017]) ⟨hx, hb, hml, hown, hts⟩ hK hA hP hD hS (mX4_freedCount l D k a (P := P) h1020) (cwV 0 hts gX7_drawn_X4_freedCount rfl rfl rfl kX4_freedCount ⟨Nat.le_of_ble_eq_true rfl, Nat.le_of_ble_eq_true rfl⟩) [2, 3, 4, 5, 6, 7, 8, 9, 10, 11] rfl rfl 0 rfl rfl rfl hl.1 rfl (Nat.le_of_ble_eq_true rfl) ⟨Nat.le_refl 0, Nat.le_refl 0⟩ dX7_drawn_101 (fun H locs hP hD hS => ?_)
                  refine lv_isub hx hb dX7_drawn_104 ?_
                  refine lv_i2l (v := (Int32.toInt64 (v1017 - v1019))) hx hb dX7_drawn_105 rfl ?_
                  obtain ⟨rfl, rfl, rfl⟩ := some3 he
                  exact cRl hx hb hr hlk hK hP hD hS dX7_drawn_106
                · have he := ifn he c1016
                  have tc1010 : Int32.toInt p3 ≠ 0 := fun z => c1010 (Int32.toInt_inj.mp z)
                  have tc1013 : Int32.toInt p3 ≠ 1 := fun z => c1013 (Int32.toInt_inj.mp z)
                  have tc1016 : Int32.toInt p3 ≠ 2 := fun z => c1016 (Int32.toInt_inj.mp z)
                  refine lv_tableOut (tgt := 107) hx hb dX7_drawn_44 (by omega) (by decide) ?_
                  refine lv_aload_n hx hb dX7_drawn_107 rfl (lv_at hl 0 rfl) ?_
                  refine va_get (D := D) (ci := 7) (v := .ref (a2 0)) (C := RX7) (T := TX7) (N := 9) hx hb hts iX7 hown hK hP 0 rfl rfl 1 (by decide) w2 (fun _ h9 => h9) rfl dX7_drawn_108 ?_
                  obtain ⟨v1021, h1022, he⟩ := bn1_i he
                  refine cVlr (As := []) (rest := []) ⟨hx, hb, hml, hown, hts⟩ hK hA hP hD hS (mX4_sizeOfAll l D k a2 (P := T1007) h1022) (cwV 0 hts gX7_drawn_X4_sizeOfAll rfl rfl rfl kX4_sizeOfAll ⟨Nat.le_of_ble_eq_true rfl, Nat.le_of_ble_eq_true rfl⟩) [12, 13, 14, 15, 16, 17, 18, 19, 20, 21] rfl rfl 0 rfl rfl rfl hl.1 rfl (Nat.le_of_ble_eq_true rfl) ⟨Nat.le_refl 0, Nat.le_refl 0⟩ dX7_drawn_111 (fun H locs hP hD hS => ?_)
                  obtain ⟨rfl, rfl, rfl⟩ := some3 he
                  exact cRl hx hb hr hlk hK hP hD hS dX7_drawn_114
          · have he := ifn he c1004
            refine lv_ldc2 hx hb hown w1 dX7_drawn_19 ?_
            obtain ⟨rfl, rfl, rfl⟩ := some3 he
            exact cRl hx hb hr hlk hK hP hD hS dX7_drawn_22
  exact key ss.heap [] rfl rfl hP hS
theorem kX7_image : yX7_image.cls = RX7 ∧ yX7_image.cls ≠ "java/lang/invoke/MethodHandle" ∧ yX7_image.cls ≠ "java/lang/invoke/VarHandle" ∧ (parseMethodDescriptor yX7_image.desc).map (fun d => d.parameters.length) = some 0 := by decide +kernel
set_option maxRecDepth 100000 in
set_option maxHeartbeats 4000000 in
theorem mX7_image (l : Launch) (D : va_G) (k : Nat → ClassId) (d : Nat → Nat) (a : Nat → Nat) (a2 : Nat → Nat) (a3 : Nat → Nat) (h : Nat → Nat) (c : Nat → Nat) (g : Nat → Nat) (t0 : Nat → Nat) (t1 : Nat → Nat) (t2 : Nat → Nat) (t3 : Nat → Nat) (b : Nat) (v : Nat) (o : Nat) (b2 : Nat) {P : Nat → Nat → Int32} {T : Nat → Nat → Int32} {K_0 : Nat → Nat → Int32} {X : Nat → Int32} {Y : Nat → Int32} {C : Nat → Int32} {F : Nat → Int64} {z : Int32} {SO : Nat → Int32} {LE : Nat → Int32} {RO : Nat → Nat → Int64} {hi_0 : Int32}  {r : Int32} {K' : Nat → Nat → Int32} {hi' : Int32} (he : xX7_image P K_0 hi_0 = some (r, K', hi')) : CtI l D k yX7_image wsX7_image ({ frames := 2, cells := 0, slots := 0, locals := 81 } : Room) [.ref (d 0)] (wMain k d a a2 a3 h c g t0 t1 t2 t3 b v o b2 P T K_0 X Y C F z SO LE RO hi_0) r (wMain k d a a2 a3 h c g t0 t1 t2 t3 b v o b2 P T K' X Y C F z SO LE RO hi') := by
  intro sz9
  refine cSt (lv := [(0, .ref (d 0))]) (own := RX7) (cc := cX7_image) (nL := 1) (ret := (some .int)) (by decide +kernel) rfl rfl (Nat.le_of_ble_eq_true rfl) rfl ?_
  intro pp ee ss mm bl me co hsz hC0 hP hD hS ls hl
  subst hsz
  obtain ⟨hx, hb, hr, hml, hown, hts, hK, hlk⟩ := hC0
  have hA : ∀ q, ss.heap.size ≤ q → va_A (wMain k d a a2 a3 h c g t0 t1 t2 t3 b v o b2 P T K_0 X Y C F z SO LE RO hi_0) ss.heap.size q := fun q h => Or.inr h
  have iX7 : ∀ w ∈ wsX70, w ∈ wsX7_image := fun _ h => List.mem_cons_of_mem _ (List.mem_append_left _ (List.mem_append_right _ h))
  have w1 := hts (.fieldLink RX7 19 "DeadListPool" "kept" "LDeadListPool$Pool;") (List.mem_of_getElem? (i := 1) rfl)
  have w2 := hts (.fieldLink RX7 10 "DeadListPool" "pool" "LDeadListPool$Pool;") (List.mem_of_getElem? (i := 2) rfl)
  have w3 := hts (.fieldLink RX7 61 "DeadListPool" "hasImage" "Z") (List.mem_of_getElem? (i := 3) rfl)
  have hS0 := hS
  have key : ∀ (H : Heap) (locs : List Loc), H = ss.heap → locs = [] → va_P D vwCl (wMain k d a a2 a3 h c g t0 t1 t2 t3 b v o b2 P T K_0 X Y C F z SO LE RO hi_0) H → va_S (va_A (wMain k d a a2 a3 h c g t0 t1 t2 t3 b v o b2 P T K_0 X Y C F z SO LE RO hi_0) ss.heap.size) ss.heap H locs → W pp l ee ({ frames := 2, cells := 0, slots := 0, locals := 81 } : Room) ss mm ([.ref (d 0)] : List Value).toArray bl me co H locs 0 0 (MQ bl (cQi D k (wMain k d a a2 a3 h c g t0 t1 t2 t3 b v o b2 P T K_0 X Y C F z SO LE RO hi_0) ss.heap.size r (wMain k d a a2 a3 h c g t0 t1 t2 t3 b v o b2 P T K' X Y C F z SO LE RO hi')) ([.ref (d 0)] : List Value).toArray ss 0 0 (va_A (wMain k d a a2 a3 h c g t0 t1 t2 t3 b v o b2 P T K_0 X Y C F z SO LE RO hi_0) ss.heap.size)) (F0 mm 0 ls []) := by
    intro H locs _ _ hP hS
    refine lv_aload_n hx hb dX7_image_0 rfl (lv_at hl 0 rfl) ?_
    refine va_get (D := D) (ci := 7) (v := .ref (a3 0)) (C := RX7) (T := TX7) (N := 9) hx hb hts iX7 hown hK hP 0 rfl rfl 2 (by decide) w1 (fun _ h9 => h9) rfl dX7_image_1 ?_
    refine lv_aload_n hx hb dX7_image_4 rfl (lv_at hl 0 rfl) ?_
    refine va_get (D := D) (ci := 7) (v := .ref (a 0)) (C := RX7) (T := TX7) (N := 9) hx hb hts iX7 hown hK hP 0 rfl rfl 0 (by decide) w2 (fun _ h9 => h9) rfl dX7_image_5 ?_
    obtain ⟨K1001, h1002, he⟩ := bn1_i he
    refine cVv (wf := (wMain k d a a2 a3 h c g t0 t1 t2 t3 b v o b2 P T K1001 X Y C F z SO LE RO hi_0)) (As := [.ref (a 0)]) (rest := []) ⟨hx, hb, hml, hown, hts⟩ hK hA hP hD hS (mX4_copyFrom l D k a3 a (P_0 := K_0) (O := P) h1002) (cwV 1 hts gX7_image_X4_copyFrom rfl rfl rfl kX4_copyFrom ⟨Nat.le_of_ble_eq_true rfl, Nat.le_of_ble_eq_true rfl⟩) [22, 23, 24, 25, 26, 27, 28, 29, 30, 31, 2, 3, 4, 5, 6, 7, 8, 9, 10, 11] rfl rfl rfl [true, true, false, false, false, false, false, false, false, false, false, false, true, true, true, true, true, true, true, true, true, true, false, false, false, false, false, false, false, false, false, false, true, true, true, true, true, true, true, true, true, true, true, true, true, true, true, true, true, true, true] ⟨rfl, rfl, rfl, rfl, rfl, rfl, rfl, rfl, rfl, rfl, rfl, rfl, rfl, rfl, rfl, rfl, rfl, rfl, rfl, rfl, rfl, rfl, rfl, rfl, rfl, rfl, rfl, rfl, rfl, rfl, rfl, trivial⟩ 51 rfl (by decide +kernel) rfl 0 rfl rfl rfl hl.1 rfl (Nat.le_of_ble_eq_true rfl) ⟨Nat.le_refl 0, Nat.le_refl 0⟩ dX7_image_8 (fun H locs hP hD hS => ?_)
    refine lv_aload_n hx hb dX7_image_11 rfl (lv_at hl 0 rfl) ?_
    refine lv_iconst (v := 1) hx hb dX7_image_12 (by decide) ?_
    obtain ⟨hi1003, e1004, he⟩ := lt_i he
    refine va_put (D := D) (ci := 7) (v := .int 1) (ty := .boolean) (C := RX7) (T := TX7) (N := 9) hx hb hts iX7 tyX7 tyX7_ok nmX7 hown hK hP hD hS 0 rfl rfl 8 (by decide) w3 (fun _ h9 => h9) rfl (by decide +kernel) rfl rfl (Nat.le_of_ble_eq_true rfl) dX7_image_13 (fun H locs hP hD hS => ?_)
    have hP : va_P D vwCl (wMain k d a a2 a3 h c g t0 t1 t2 t3 b v o b2 P T K1001 X Y C F z SO LE RO hi1003) H := by rw [e1004]; exact hP
    have hD : va_D _ (wMain k d a a2 a3 h c g t0 t1 t2 t3 b v o b2 P T K1001 X Y C F z SO LE RO hi1003) := va_D_adr (by rw [e1004]; rfl) hD
    refine lv_aload_n hx hb dX7_image_16 rfl (lv_at hl 0 rfl) ?_
    refine va_get (D := D) (ci := 7) (v := .ref (a3 0)) (C := RX7) (T := TX7) (N := 9) hx hb hts iX7 hown hK hP 0 rfl rfl 2 (by decide) w1 (fun _ h9 => h9) rfl dX7_image_17 ?_
    obtain ⟨v1005, h1006, he⟩ := bn1_i he
    refine cVir (As := []) (rest := []) ⟨hx, hb, hml, hown, hts⟩ hK hA hP hD hS (mX4_thingCount l D k a3 (P := K1001) h1006) (cwV 0 hts gX7_image_X4_thingCount rfl rfl rfl kX4_thingCount ⟨Nat.le_of_ble_eq_true rfl, Nat.le_of_ble_eq_true rfl⟩) [22, 23, 24, 25, 26, 27, 28, 29, 30, 31] rfl rfl 0 rfl rfl rfl hl.1 rfl (Nat.le_of_ble_eq_true rfl) ⟨Nat.le_refl 0, Nat.le_refl 0⟩ dX7_image_20 (fun H locs hP hD hS => ?_)
    obtain ⟨rfl, rfl, rfl⟩ := some3 he
    exact cRi hx hb hr hlk hK rfl hP hD hS dX7_image_23
  exact key ss.heap [] rfl rfl hP hS
theorem kX7_back : yX7_back.cls = RX7 ∧ yX7_back.cls ≠ "java/lang/invoke/MethodHandle" ∧ yX7_back.cls ≠ "java/lang/invoke/VarHandle" ∧ (parseMethodDescriptor yX7_back.desc).map (fun d => d.parameters.length) = some 0 := by decide +kernel
set_option maxRecDepth 100000 in
set_option maxHeartbeats 4000000 in
theorem mX7_back (l : Launch) (D : va_G) (k : Nat → ClassId) (d : Nat → Nat) (a : Nat → Nat) (a2 : Nat → Nat) (a3 : Nat → Nat) (h : Nat → Nat) (c : Nat → Nat) (g : Nat → Nat) (t0 : Nat → Nat) (t1 : Nat → Nat) (t2 : Nat → Nat) (t3 : Nat → Nat) (b : Nat) (v : Nat) (o : Nat) (b2 : Nat) {P_0 : Nat → Nat → Int32} {T : Nat → Nat → Int32} {K : Nat → Nat → Int32} {X : Nat → Int32} {Y : Nat → Int32} {C : Nat → Int32} {F : Nat → Int64} {z : Int32} {SO : Nat → Int32} {LE : Nat → Int32} {RO : Nat → Nat → Int64} {hi : Int32}  {r : Int32} {P' : Nat → Nat → Int32} (he : xX7_back K hi P_0 = some (r, P')) : CtI l D k yX7_back wsX7_back ({ frames := 2, cells := 0, slots := 0, locals := 81 } : Room) [.ref (d 0)] (wMain k d a a2 a3 h c g t0 t1 t2 t3 b v o b2 P_0 T K X Y C F z SO LE RO hi) r (wMain k d a a2 a3 h c g t0 t1 t2 t3 b v o b2 P' T K X Y C F z SO LE RO hi) := by
  intro sz9
  refine cSt (lv := [(0, .ref (d 0))]) (own := RX7) (cc := cX7_back) (nL := 1) (ret := (some .int)) (by decide +kernel) rfl rfl (Nat.le_of_ble_eq_true rfl) rfl ?_
  intro pp ee ss mm bl me co hsz hC0 hP hD hS ls hl
  subst hsz
  obtain ⟨hx, hb, hr, hml, hown, hts, hK, hlk⟩ := hC0
  have hA : ∀ q, ss.heap.size ≤ q → va_A (wMain k d a a2 a3 h c g t0 t1 t2 t3 b v o b2 P_0 T K X Y C F z SO LE RO hi) ss.heap.size q := fun q h => Or.inr h
  have iX7 : ∀ w ∈ wsX70, w ∈ wsX7_back := fun _ h => List.mem_cons_of_mem _ (List.mem_append_left _ (List.mem_append_right _ h))
  have w1 := hts (.fieldLink RX7 61 "DeadListPool" "hasImage" "Z") (List.mem_of_getElem? (i := 1) rfl)
  have w2 := hts (.fieldLink RX7 10 "DeadListPool" "pool" "LDeadListPool$Pool;") (List.mem_of_getElem? (i := 2) rfl)
  have w3 := hts (.fieldLink RX7 19 "DeadListPool" "kept" "LDeadListPool$Pool;") (List.mem_of_getElem? (i := 3) rfl)
  have hS0 := hS
  have key : ∀ (H : Heap) (locs : List Loc), H = ss.heap → locs = [] → va_P D vwCl (wMain k d a a2 a3 h c g t0 t1 t2 t3 b v o b2 P_0 T K X Y C F z SO LE RO hi) H → va_S (va_A (wMain k d a a2 a3 h c g t0 t1 t2 t3 b v o b2 P_0 T K X Y C F z SO LE RO hi) ss.heap.size) ss.heap H locs → W pp l ee ({ frames := 2, cells := 0, slots := 0, locals := 81 } : Room) ss mm ([.ref (d 0)] : List Value).toArray bl me co H locs 0 0 (MQ bl (cQi D k (wMain k d a a2 a3 h c g t0 t1 t2 t3 b v o b2 P_0 T K X Y C F z SO LE RO hi) ss.heap.size r (wMain k d a a2 a3 h c g t0 t1 t2 t3 b v o b2 P' T K X Y C F z SO LE RO hi)) ([.ref (d 0)] : List Value).toArray ss 0 0 (va_A (wMain k d a a2 a3 h c g t0 t1 t2 t3 b v o b2 P_0 T K X Y C F z SO LE RO hi) ss.heap.size)) (F0 mm 0 ls []) := by
    intro H locs _ _ hP hS
    refine lv_aload_n hx hb dX7_back_0 rfl (lv_at hl 0 rfl) ?_
    refine va_get (D := D) (ci := 7) (v := .int hi) (C := RX7) (T := TX7) (N := 9) hx hb hts iX7 hown hK hP 0 rfl rfl 8 (by decide) w1 (fun _ h9 => h9) rfl dX7_back_1 ?_
    refine lv_if_ne (tgt := 10) hx hb dX7_back_4 (by decide) (fun c1001 => ?_) (fun c1001 => ?_)
    · have he := ifn he c1001
      refine lv_aload_n hx hb dX7_back_10 rfl (lv_at hl 0 rfl) ?_
      refine va_get (D := D) (ci := 7) (v := .ref (a 0)) (C := RX7) (T := TX7) (N := 9) hx hb hts iX7 hown hK hP 0 rfl rfl 0 (by decide) w2 (fun _ h9 => h9) rfl dX7_back_11 ?_
      refine lv_aload_n hx hb dX7_back_14 rfl (lv_at hl 0 rfl) ?_
      refine va_get (D := D) (ci := 7) (v := .ref (a3 0)) (C := RX7) (T := TX7) (N := 9) hx hb hts iX7 hown hK hP 0 rfl rfl 2 (by decide) w3 (fun _ h9 => h9) rfl dX7_back_15 ?_
      obtain ⟨P1002, h1003, he⟩ := bn1_i he
      refine cVv (wf := (wMain k d a a2 a3 h c g t0 t1 t2 t3 b v o b2 P1002 T K X Y C F z SO LE RO hi)) (As := [.ref (a3 0)]) (rest := []) ⟨hx, hb, hml, hown, hts⟩ hK hA hP hD hS (mX4_copyFrom l D k a a3 (P_0 := P_0) (O := K) h1003) (cwV 1 hts gX7_back_X4_copyFrom rfl rfl rfl kX4_copyFrom ⟨Nat.le_of_ble_eq_true rfl, Nat.le_of_ble_eq_true rfl⟩) [2, 3, 4, 5, 6, 7, 8, 9, 10, 11, 22, 23, 24, 25, 26, 27, 28, 29, 30, 31] rfl rfl rfl [true, true, false, false, false, false, false, false, false, false, false, false, true, true, true, true, true, true, true, true, true, true, false, false, false, false, false, false, false, false, false, false, true, true, true, true, true, true, true, true, true, true, true, true, true, true, true, true, true, true, true] ⟨rfl, rfl, rfl, rfl, rfl, rfl, rfl, rfl, rfl, rfl, rfl, rfl, rfl, rfl, rfl, rfl, rfl, rfl, rfl, rfl, rfl, rfl, rfl, rfl, rfl, rfl, rfl, rfl, rfl, rfl, rfl, trivial⟩ 51 rfl (by decide +kernel) rfl 0 rfl rfl rfl hl.1 rfl (Nat.le_of_ble_eq_true rfl) ⟨Nat.le_refl 0, Nat.le_refl 0⟩ dX7_back_18 (fun H locs hP hD hS => ?_)
      refine lv_aload_n hx hb dX7_back_21 rfl (lv_at hl 0 rfl) ?_
      refine va_get (D := D) (ci := 7) (v := .ref (a 0)) (C := RX7) (T := TX7) (N := 9) hx hb hts iX7 hown hK hP 0 rfl rfl 0 (by decide) w2 (fun _ h9 => h9) rfl dX7_back_22 ?_
      obtain ⟨v1004, h1005, he⟩ := bn1_i he
      refine cVir (As := []) (rest := []) ⟨hx, hb, hml, hown, hts⟩ hK hA hP hD hS (mX4_thingCount l D k a (P := P1002) h1005) (cwV 0 hts gX7_back_X4_thingCount rfl rfl rfl kX4_thingCount ⟨Nat.le_of_ble_eq_true rfl, Nat.le_of_ble_eq_true rfl⟩) [2, 3, 4, 5, 6, 7, 8, 9, 10, 11] rfl rfl 0 rfl rfl rfl hl.1 rfl (Nat.le_of_ble_eq_true rfl) ⟨Nat.le_refl 0, Nat.le_refl 0⟩ dX7_back_25 (fun H locs hP hD hS => ?_)
      obtain ⟨rfl, rfl⟩ := some2 he
      exact cRi hx hb hr hlk hK rfl hP hD hS dX7_back_28
    · have he := ifp he c1001
      refine lv_bipush (v := (-3)) hx hb dX7_back_7 (by decide) ?_
      obtain ⟨rfl, rfl⟩ := some2 he
      exact cRi hx hb hr hlk hK rfl hP hD hS dX7_back_9
  exact key ss.heap [] rfl rfl hP hS
theorem kX7_count : yX7_count.cls = RX7 ∧ yX7_count.cls ≠ "java/lang/invoke/MethodHandle" ∧ yX7_count.cls ≠ "java/lang/invoke/VarHandle" ∧ (parseMethodDescriptor yX7_count.desc).map (fun d => d.parameters.length) = some 1 := by decide +kernel
set_option maxRecDepth 100000 in
set_option maxHeartbeats 4000000 in
theorem mX7_count (l : Launch) (D : va_G) (k : Nat → ClassId) (d : Nat → Nat) (a : Nat → Nat) (a2 : Nat → Nat) (a3 : Nat → Nat) (h : Nat → Nat) (c : Nat → Nat) (g : Nat → Nat) (t0 : Nat → Nat) (t1 : Nat → Nat) (t2 : Nat → Nat) (t3 : Nat → Nat) (b : Nat) (v : Nat) (o : Nat) (b2 : Nat) {P : Nat → Nat → Int32} {T : Nat → Nat → Int32} {K : Nat → Nat → Int32} {X : Nat → Int32} {Y : Nat → Int32} {C : Nat → Int32} {F : Nat → Int64} {z : Int32} {SO : Nat → Int32} {LE : Nat → Int32} {RO : Nat → Nat → Int64} {hi : Int32} {p1 : Int32} {r : Int32}  (he : xX7_count P p1 = some r) : CtI l D k yX7_count wsX7_count ({ frames := 1, cells := 0, slots := 0, locals := 22 } : Room) [.ref (d 0), .int p1] (wMain k d a a2 a3 h c g t0 t1 t2 t3 b v o b2 P T K X Y C F z SO LE RO hi) r (wMain k d a a2 a3 h c g t0 t1 t2 t3 b v o b2 P T K X Y C F z SO LE RO hi) := by
  intro sz9
  refine cSt (lv := [(0, .ref (d 0)), (1, .int p1)]) (own := RX7) (cc := cX7_count) (nL := 2) (ret := (some .int)) (by decide +kernel) rfl rfl (Nat.le_of_ble_eq_true rfl) rfl ?_
  intro pp ee ss mm bl me co hsz hC0 hP hD hS ls hl
  subst hsz
  obtain ⟨hx, hb, hr, hml, hown, hts, hK, hlk⟩ := hC0
  have hA : ∀ q, ss.heap.size ≤ q → va_A (wMain k d a a2 a3 h c g t0 t1 t2 t3 b v o b2 P T K X Y C F z SO LE RO hi) ss.heap.size q := fun q h => Or.inr h
  have iX7 : ∀ w ∈ wsX70, w ∈ wsX7_count := fun _ h => List.mem_cons_of_mem _ (List.mem_append_left _ (List.mem_append_right _ h))
  have w1 := hts (.fieldLink RX7 10 "DeadListPool" "pool" "LDeadListPool$Pool;") (List.mem_of_getElem? (i := 1) rfl)
  have hS0 := hS
  have key : ∀ (H : Heap) (locs : List Loc), H = ss.heap → locs = [] → va_P D vwCl (wMain k d a a2 a3 h c g t0 t1 t2 t3 b v o b2 P T K X Y C F z SO LE RO hi) H → va_S (va_A (wMain k d a a2 a3 h c g t0 t1 t2 t3 b v o b2 P T K X Y C F z SO LE RO hi) ss.heap.size) ss.heap H locs → W pp l ee ({ frames := 1, cells := 0, slots := 0, locals := 22 } : Room) ss mm ([.ref (d 0), .int p1] : List Value).toArray bl me co H locs 0 0 (MQ bl (cQi D k (wMain k d a a2 a3 h c g t0 t1 t2 t3 b v o b2 P T K X Y C F z SO LE RO hi) ss.heap.size r (wMain k d a a2 a3 h c g t0 t1 t2 t3 b v o b2 P T K X Y C F z SO LE RO hi)) ([.ref (d 0), .int p1] : List Value).toArray ss 0 0 (va_A (wMain k d a a2 a3 h c g t0 t1 t2 t3 b v o b2 P T K X Y C F z SO LE RO hi) ss.heap.size)) (F0 mm 0 ls []) := by
    intro H locs _ _ hP hS
    refine lv_iload_n hx hb dX7_count_0 rfl (lv_at hl 1 rfl) ?_
    by_cases c1001 : p1 = 0
    · have he := ifp he c1001
      refine lv_tableIn (off := 31) (tgt := 32) hx hb dX7_count_1 (by rw [c1001]; decide) (by rw [c1001]; decide) (by rw [c1001]; rfl) (by decide) ?_
      refine lv_aload_n hx hb dX7_count_32 rfl (lv_at hl 0 rfl) ?_
      refine va_get (D := D) (ci := 7) (v := .ref (a 0)) (C := RX7) (T := TX7) (N := 9) hx hb hts iX7 hown hK hP 0 rfl rfl 0 (by decide) w1 (fun _ h9 => h9) rfl dX7_count_33 ?_
      obtain ⟨v1002, h1003, he⟩ := bn1_i he
      refine cVir (As := []) (rest := []) ⟨hx, hb, hml, hown, hts⟩ hK hA hP hD hS (mX4_thingCount l D k a (P := P) h1003) (cwV 0 hts gX7_count_X4_thingCount rfl rfl rfl kX4_thingCount ⟨Nat.le_of_ble_eq_true rfl, Nat.le_of_ble_eq_true rfl⟩) [2, 3, 4, 5, 6, 7, 8, 9, 10, 11] rfl rfl 0 rfl rfl rfl hl.1 rfl (Nat.le_of_ble_eq_true rfl) ⟨Nat.le_refl 0, Nat.le_refl 0⟩ dX7_count_36 (fun H locs hP hD hS => ?_)
      obtain rfl := some1 he
      exact cRi hx hb hr hlk hK rfl hP hD hS dX7_count_39
    · have he := ifn he c1001
      by_cases c1004 : p1 = 1
      · have he := ifp he c1004
        refine lv_tableIn (off := 39) (tgt := 40) hx hb dX7_count_1 (by rw [c1004]; decide) (by rw [c1004]; decide) (by rw [c1004]; rfl) (by decide) ?_
        refine lv_aload_n hx hb dX7_count_40 rfl (lv_at hl 0 rfl) ?_
        refine va_get (D := D) (ci := 7) (v := .ref (a 0)) (C := RX7) (T := TX7) (N := 9) hx hb hts iX7 hown hK hP 0 rfl rfl 0 (by decide) w1 (fun _ h9 => h9) rfl dX7_count_41 ?_
        obtain ⟨v1005, h1006, he⟩ := bn1_i he
        refine cVir (As := []) (rest := []) ⟨hx, hb, hml, hown, hts⟩ hK hA hP hD hS (mX4_blockCount l D k a (P := P) h1006) (cwV 0 hts gX7_count_X4_blockCount rfl rfl rfl kX4_blockCount ⟨Nat.le_of_ble_eq_true rfl, Nat.le_of_ble_eq_true rfl⟩) [2, 3, 4, 5, 6, 7, 8, 9, 10, 11] rfl rfl 0 rfl rfl rfl hl.1 rfl (Nat.le_of_ble_eq_true rfl) ⟨Nat.le_refl 0, Nat.le_refl 0⟩ dX7_count_44 (fun H locs hP hD hS => ?_)
        obtain rfl := some1 he
        exact cRi hx hb hr hlk hK rfl hP hD hS dX7_count_47
      · have he := ifn he c1004
        by_cases c1007 : p1 = 2
        · have he := ifp he c1007
          refine lv_tableIn (off := 47) (tgt := 48) hx hb dX7_count_1 (by rw [c1007]; decide) (by rw [c1007]; decide) (by rw [c1007]; rfl) (by decide) ?_
          refine lv_aload_n hx hb dX7_count_48 rfl (lv_at hl 0 rfl) ?_
          refine va_get (D := D) (ci := 7) (v := .ref (a 0)) (C := RX7) (T := TX7) (N := 9) hx hb hts iX7 hown hK hP 0 rfl rfl 0 (by decide) w1 (fun _ h9 => h9) rfl dX7_count_49 ?_
          obtain ⟨v1008, h1009, he⟩ := bn1_i he
          refine cVir (As := []) (rest := []) ⟨hx, hb, hml, hown, hts⟩ hK hA hP hD hS (mX4_now l D k a (P := P) h1009) (cwV 0 hts gX7_count_X4_now rfl rfl rfl kX4_now ⟨Nat.le_of_ble_eq_true rfl, Nat.le_of_ble_eq_true rfl⟩) [2, 3, 4, 5, 6, 7, 8, 9, 10, 11] rfl rfl 0 rfl rfl rfl hl.1 rfl (Nat.le_of_ble_eq_true rfl) ⟨Nat.le_refl 0, Nat.le_refl 0⟩ dX7_count_52 (fun H locs hP hD hS => ?_)
          obtain rfl := some1 he
          exact cRi hx hb hr hlk hK rfl hP hD hS dX7_count_55
        · have he := ifn he c1007
          by_cases c1010 : p1 = 3
          · have he := ifp he c1010
            refine lv_tableIn (off := 55) (tgt := 56) hx hb dX7_count_1 (by rw [c1010]; decide) (by rw [c1010]; decide) (by rw [c1010]; rfl) (by decide) ?_
            refine lv_aload_n hx hb dX7_count_56 rfl (lv_at hl 0 rfl) ?_
            refine va_get (D := D) (ci := 7) (v := .ref (a 0)) (C := RX7) (T := TX7) (N := 9) hx hb hts iX7 hown hK hP 0 rfl rfl 0 (by decide) w1 (fun _ h9 => h9) rfl dX7_count_57 ?_
            obtain ⟨v1011, h1012, he⟩ := bn1_i he
            refine cVir (As := []) (rest := []) ⟨hx, hb, hml, hown, hts⟩ hK hA hP hD hS (mX4_freedCount l D k a (P := P) h1012) (cwV 0 hts gX7_count_X4_freedCount rfl rfl rfl kX4_freedCount ⟨Nat.le_of_ble_eq_true rfl, Nat.le_of_ble_eq_true rfl⟩) [2, 3, 4, 5, 6, 7, 8, 9, 10, 11] rfl rfl 0 rfl rfl rfl hl.1 rfl (Nat.le_of_ble_eq_true rfl) ⟨Nat.le_refl 0, Nat.le_refl 0⟩ dX7_count_60 (fun H locs hP hD hS => ?_)
            obtain rfl := some1 he
            exact cRi hx hb hr hlk hK rfl hP hD hS dX7_count_63
          · have he := ifn he c1010
            have tc1001 : Int32.toInt p1 ≠ 0 := fun z => c1001 (Int32.toInt_inj.mp z)
            have tc1004 : Int32.toInt p1 ≠ 1 := fun z => c1004 (Int32.toInt_inj.mp z)
            have tc1007 : Int32.toInt p1 ≠ 2 := fun z => c1007 (Int32.toInt_inj.mp z)
            have tc1010 : Int32.toInt p1 ≠ 3 := fun z => c1010 (Int32.toInt_inj.mp z)
            refine lv_tableOut (tgt := 64) hx hb dX7_count_1 (by omega) (by decide) ?_
            refine lv_bipush (v := (-2)) hx hb dX7_count_64 (by decide) ?_
            obtain rfl := some1 he
            exact cRi hx hb hr hlk hK rfl hP hD hS dX7_count_66
  exact key ss.heap [] rfl rfl hP hS
