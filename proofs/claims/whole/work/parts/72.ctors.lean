set_option maxRecDepth 100000 in
set_option maxHeartbeats 4000000 in
theorem ctX0 (l : Launch) (D : va_G) (k : Nat → ClassId) (h0 pa : Nat) : CtK l D k yX0_init wsX0_init ({ frames := 1, cells := 0, slots := 0, locals := 12 } : Room) [.ref h0, .ref pa] [(h0, .inr (0, [.null]))] (S := Unit) (fun u => [(h0, .inr (0, [.ref pa]))]) (fun u => True) 0 0 := by
  intro sz9
  refine cStK (lv := [(0, .ref h0), (1, .ref pa)]) (own := RX0) (cc := cX0_init) (nL := 2) (by decide +kernel) rfl rfl rfl (Nat.le_of_ble_eq_true rfl) rfl ?_
  intro pp ee ss mm bl me co hsz hC0 hP hD hS ls hl
  subst hsz
  obtain ⟨hx, hb, hr, hml, hown, hts, hK, hlk, hin, hO⟩ := hC0
  have hA : ∀ q, ss.heap.size ≤ q → va_A [(h0, .inr (0, [.null]))] ss.heap.size q := fun q h => Or.inr h
  have w1 := hts (.methodLink RX0 3 objectInit) (List.mem_of_getElem? (i := 1) rfl)
  have w2 := hts (.instanceMethod objectInit) (List.mem_of_getElem? (i := 2) rfl)
  have w3 := hts (.code objectInit ⟨#[0xb1]⟩ 1 none) (List.mem_of_getElem? (i := 3) rfl)
  have iX0 : ∀ w ∈ wsX00, w ∈ wsX0_init := fun _ h => List.mem_cons_of_mem _ (List.mem_append_right _ h)
  have w4 := hts (.fieldLink RX0 9 "DeadListPool$Acts" "pool" "LDeadListPool$Pool;") (List.mem_of_getElem? (i := 4) rfl)
  have key : ∀ (H : Heap) (locs : List Loc), H = ss.heap → locs = [] → va_P D vwCl [(h0, .inr (0, [.null]))] H → va_S (va_A [(h0, .inr (0, [.null]))] ss.heap.size) ss.heap H locs → W pp l ee ({ frames := 1, cells := 0, slots := 0, locals := 12 } : Room) ss mm ([.ref h0, .ref pa] : List Value).toArray bl me co H locs 0 0 (MQ bl (va_Qv (fun u : Unit => True) (kB D k (fun u : Unit => [(h0, .inr (0, [.ref pa]))]) [(h0, .inr (0, [.null]))] ss.heap.size) (va_A [(h0, .inr (0, [.null]))] ss.heap.size)) ([.ref h0, .ref pa] : List Value).toArray ss 0 0 (va_A [(h0, .inr (0, [.null]))] ss.heap.size)) (F0 mm 0 ls []) := by
    intro H locs _ _ hP hS
    refine lv_aload_n hx hb dX0_init_0 rfl (lv_at hl 0 rfl) ?_
    refine W.objInit hx hb hown w1 w2 w3 rfl (by rw [hml]; exact hl.1) rfl dX0_init_1 (Nat.le_of_ble_eq_true rfl) (Nat.le_of_ble_eq_true rfl) ?_
    refine W.eq (g2 := F0 mm 4 ls []) rfl ?_
    refine lv_aload_n hx hb dX0_init_4 rfl (lv_at hl 0 rfl) ?_
    refine lv_aload_n hx hb dX0_init_5 rfl (lv_at hl 1 rfl) ?_
    refine va_putF (D := D) (ci := 0) (v := .ref pa) (ty := .object "DeadListPool$Pool") (C := RX0) (T := TX0) (N := 1) hx hb hts iX0 tyX0 tyX0_ok nmX0 hown hK hP hD hS 0 rfl rfl 0 (by decide) w4 (fun _ h9 => h9) rfl hin rfl (by decide +kernel) rfl rfl (Nat.le_of_ble_eq_true rfl) dX0_init_6 (fun H locs hP hD hS => ?_)
    have hP : va_P D vwCl [(h0, .inr (0, [.ref pa]))] H := hP
    have hD : va_D (va_A [(h0, .inr (0, [.null]))] ss.heap.size) [(h0, .inr (0, [.ref pa]))] := hD
    exact cRk hx hb hr hlk hK () trivial hP hD hS dX0_init_9
  exact key ss.heap [] rfl rfl hP hS
set_option maxRecDepth 100000 in
set_option maxHeartbeats 4000000 in
theorem ctX3 (l : Launch) (D : va_G) (k : Nat → ClassId) (h0 pa : Nat) : CtK l D k yX3_init wsX3_init ({ frames := 1, cells := 0, slots := 0, locals := 12 } : Room) [.ref h0, .ref pa] [(h0, .inr (3, [.null, .int 0]))] (S := Unit) (fun u => [(h0, .inr (3, [.ref pa, .int 0]))]) (fun u => True) 0 0 := by
  intro sz9
  refine cStK (lv := [(0, .ref h0), (1, .ref pa)]) (own := RX3) (cc := cX3_init) (nL := 2) (by decide +kernel) rfl rfl rfl (Nat.le_of_ble_eq_true rfl) rfl ?_
  intro pp ee ss mm bl me co hsz hC0 hP hD hS ls hl
  subst hsz
  obtain ⟨hx, hb, hr, hml, hown, hts, hK, hlk, hin, hO⟩ := hC0
  have hA : ∀ q, ss.heap.size ≤ q → va_A [(h0, .inr (3, [.null, .int 0]))] ss.heap.size q := fun q h => Or.inr h
  have w1 := hts (.methodLink RX3 3 objectInit) (List.mem_of_getElem? (i := 1) rfl)
  have w2 := hts (.instanceMethod objectInit) (List.mem_of_getElem? (i := 2) rfl)
  have w3 := hts (.code objectInit ⟨#[0xb1]⟩ 1 none) (List.mem_of_getElem? (i := 3) rfl)
  have iX3 : ∀ w ∈ wsX30, w ∈ wsX3_init := fun _ h => List.mem_cons_of_mem _ (List.mem_append_right _ h)
  have w4 := hts (.fieldLink RX3 9 "DeadListPool$Lot" "acts" "LDeadListPool$Acts;") (List.mem_of_getElem? (i := 4) rfl)
  have w5 := hts (.fieldLink RX3 15 "DeadListPool$Lot" "z" "I") (List.mem_of_getElem? (i := 5) rfl)
  have key : ∀ (H : Heap) (locs : List Loc), H = ss.heap → locs = [] → va_P D vwCl [(h0, .inr (3, [.null, .int 0]))] H → va_S (va_A [(h0, .inr (3, [.null, .int 0]))] ss.heap.size) ss.heap H locs → W pp l ee ({ frames := 1, cells := 0, slots := 0, locals := 12 } : Room) ss mm ([.ref h0, .ref pa] : List Value).toArray bl me co H locs 0 0 (MQ bl (va_Qv (fun u : Unit => True) (kB D k (fun u : Unit => [(h0, .inr (3, [.ref pa, .int 0]))]) [(h0, .inr (3, [.null, .int 0]))] ss.heap.size) (va_A [(h0, .inr (3, [.null, .int 0]))] ss.heap.size)) ([.ref h0, .ref pa] : List Value).toArray ss 0 0 (va_A [(h0, .inr (3, [.null, .int 0]))] ss.heap.size)) (F0 mm 0 ls []) := by
    intro H locs _ _ hP hS
    refine lv_aload_n hx hb dX3_init_0 rfl (lv_at hl 0 rfl) ?_
    refine W.objInit hx hb hown w1 w2 w3 rfl (by rw [hml]; exact hl.1) rfl dX3_init_1 (Nat.le_of_ble_eq_true rfl) (Nat.le_of_ble_eq_true rfl) ?_
    refine W.eq (g2 := F0 mm 4 ls []) rfl ?_
    refine lv_aload_n hx hb dX3_init_4 rfl (lv_at hl 0 rfl) ?_
    refine lv_aload_n hx hb dX3_init_5 rfl (lv_at hl 1 rfl) ?_
    refine va_putF (D := D) (ci := 3) (v := .ref pa) (ty := .object "DeadListPool$Acts") (C := RX3) (T := TX3) (N := 2) hx hb hts iX3 tyX3 tyX3_ok nmX3 hown hK hP hD hS 0 rfl rfl 0 (by decide) w4 (fun _ h9 => h9) rfl hin rfl (by decide +kernel) rfl rfl (Nat.le_of_ble_eq_true rfl) dX3_init_6 (fun H locs hP hD hS => ?_)
    have hP : va_P D vwCl [(h0, .inr (3, [.ref pa, .int 0]))] H := hP
    have hD : va_D (va_A [(h0, .inr (3, [.null, .int 0]))] ss.heap.size) [(h0, .inr (3, [.ref pa, .int 0]))] := hD
    refine lv_aload_n hx hb dX3_init_9 rfl (lv_at hl 0 rfl) ?_
    refine lv_iconst (v := 0) hx hb dX3_init_10 (by decide) ?_
    refine va_put (D := D) (ci := 3) (v := .int 0) (ty := .int) (C := RX3) (T := TX3) (N := 2) hx hb hts iX3 tyX3 tyX3_ok nmX3 hown hK hP hD hS 0 rfl rfl 1 (by decide) w5 (fun _ h9 => h9) rfl (by decide +kernel) rfl rfl (Nat.le_of_ble_eq_true rfl) dX3_init_11 (fun H locs hP hD hS => ?_)
    have hP : va_P D vwCl [(h0, .inr (3, [.ref pa, .int 0]))] H := hP
    have hD : va_D (va_A [(h0, .inr (3, [.null, .int 0]))] ss.heap.size) [(h0, .inr (3, [.ref pa, .int 0]))] := hD
    exact cRk hx hb hr hlk hK () trivial hP hD hS dX3_init_14
  exact key ss.heap [] rfl rfl hP hS
set_option maxRecDepth 100000 in
set_option maxHeartbeats 4000000 in
theorem ctX2 (l : Launch) (D : va_G) (k : Nat → ClassId) (h0 pa : Nat) : CtK l D k yX2_init wsX2_init ({ frames := 1, cells := 1, slots := 96, locals := 12 } : Room) [.ref h0, .ref pa] [(h0, .inr (2, [.null, .null]))] (S := Nat) (fun u => [(h0, .inr (2, [.ref pa, .ref u])), (u, .inl (k 0, 96, .inl (fun _ => 0)))]) (fun u => True) 1 96 := by
  intro sz9
  refine cStK (lv := [(0, .ref h0), (1, .ref pa)]) (own := RX2) (cc := cX2_init) (nL := 2) (by decide +kernel) rfl rfl rfl (Nat.le_of_ble_eq_true rfl) rfl ?_
  intro pp ee ss mm bl me co hsz hC0 hP hD hS ls hl
  subst hsz
  obtain ⟨hx, hb, hr, hml, hown, hts, hK, hlk, hin, hO⟩ := hC0
  have hA : ∀ q, ss.heap.size ≤ q → va_A [(h0, .inr (2, [.null, .null]))] ss.heap.size q := fun q h => Or.inr h
  have w1 := hts (.methodLink RX2 3 objectInit) (List.mem_of_getElem? (i := 1) rfl)
  have w2 := hts (.instanceMethod objectInit) (List.mem_of_getElem? (i := 2) rfl)
  have w3 := hts (.code objectInit ⟨#[0xb1]⟩ 1 none) (List.mem_of_getElem? (i := 3) rfl)
  have iX2 : ∀ w ∈ wsX20, w ∈ wsX2_init := fun _ h => List.mem_cons_of_mem _ (List.mem_append_right _ h)
  have w4 := hts (.fieldLink RX2 9 "DeadListPool$Holders" "pool" "LDeadListPool$Pool;") (List.mem_of_getElem? (i := 4) rfl)
  have w5 := hts (.arrayClass .int) (List.mem_of_getElem? (i := 5) rfl)
  have w6 := hts (.fieldLink RX2 15 "DeadListPool$Holders" "sets" "[I") (List.mem_of_getElem? (i := 6) rfl)
  have key : ∀ (H : Heap) (locs : List Loc), H = ss.heap → locs = [] → va_P D vwCl [(h0, .inr (2, [.null, .null]))] H → va_S (va_A [(h0, .inr (2, [.null, .null]))] ss.heap.size) ss.heap H locs → W pp l ee ({ frames := 1, cells := 1, slots := 96, locals := 12 } : Room) ss mm ([.ref h0, .ref pa] : List Value).toArray bl me co H locs 0 0 (MQ bl (va_Qv (fun u : Nat => True) (kB D k (fun u : Nat => [(h0, .inr (2, [.ref pa, .ref u])), (u, .inl (k 0, 96, .inl (fun _ => 0)))]) [(h0, .inr (2, [.null, .null]))] ss.heap.size) (va_A [(h0, .inr (2, [.null, .null]))] ss.heap.size)) ([.ref h0, .ref pa] : List Value).toArray ss 1 96 (va_A [(h0, .inr (2, [.null, .null]))] ss.heap.size)) (F0 mm 0 ls []) := by
    intro H locs _ _ hP hS
    refine lv_aload_n hx hb dX2_init_0 rfl (lv_at hl 0 rfl) ?_
    refine W.objInit hx hb hown w1 w2 w3 rfl (by rw [hml]; exact hl.1) rfl dX2_init_1 (Nat.le_of_ble_eq_true rfl) (Nat.le_of_ble_eq_true rfl) ?_
    refine W.eq (g2 := F0 mm 4 ls []) rfl ?_
    refine lv_aload_n hx hb dX2_init_4 rfl (lv_at hl 0 rfl) ?_
    refine lv_aload_n hx hb dX2_init_5 rfl (lv_at hl 1 rfl) ?_
    refine va_putF (D := D) (ci := 2) (v := .ref pa) (ty := .object "DeadListPool$Pool") (C := RX2) (T := TX2) (N := 2) hx hb hts iX2 tyX2 tyX2_ok nmX2 hown hK hP hD hS 0 rfl rfl 0 (by decide) w4 (fun _ h9 => h9) rfl hin rfl (by decide +kernel) rfl rfl (Nat.le_of_ble_eq_true rfl) dX2_init_6 (fun H locs hP hD hS => ?_)
    have hP : va_P D vwCl [(h0, .inr (2, [.ref pa, .null]))] H := hP
    have hD : va_D (va_A [(h0, .inr (2, [.null, .null]))] ss.heap.size) [(h0, .inr (2, [.ref pa, .null]))] := hD
    refine lv_aload_n hx hb dX2_init_9 rfl (lv_at hl 0 rfl) ?_
    refine lv_bipush (v := 96) hx hb dX2_init_10 (by decide) ?_
    refine nwI hx hb w5 hK hP hD hS hA 96 (by decide) rfl (by decide) (Nat.le_of_ble_eq_true rfl) (Nat.le_of_ble_eq_true rfl) dX2_init_12 (fun q1 H hP hD hS => ?_)
    have hP : va_P D vwCl [(h0, .inr (2, [.ref pa, .null])), (q1, .inl (k 0, 96, .inl (fun _ => 0)))] H := hP
    have hD : va_D (va_A [(h0, .inr (2, [.null, .null]))] ss.heap.size) [(h0, .inr (2, [.ref pa, .null])), (q1, .inl (k 0, 96, .inl (fun _ => 0)))] := hD
    refine W.widen (k := 1) (n := 96) (Nat.le_of_ble_eq_true rfl) (Nat.le_of_ble_eq_true rfl) ?_
    refine va_putF (D := D) (ci := 2) (v := .ref q1) (ty := .array .int) (C := RX2) (T := TX2) (N := 2) hx hb hts iX2 tyX2 tyX2_ok nmX2 hown hK hP hD hS 0 rfl rfl 1 (by decide) w6 (fun _ h9 => h9) rfl hin rfl (by decide +kernel) rfl rfl (Nat.le_of_ble_eq_true rfl) dX2_init_14 (fun H locs hP hD hS => ?_)
    have hP : va_P D vwCl [(h0, .inr (2, [.ref pa, .ref q1])), (q1, .inl (k 0, 96, .inl (fun _ => 0)))] H := hP
    have hD : va_D (va_A [(h0, .inr (2, [.null, .null]))] ss.heap.size) [(h0, .inr (2, [.ref pa, .ref q1])), (q1, .inl (k 0, 96, .inl (fun _ => 0)))] := hD
    exact cRk hx hb hr hlk hK q1 trivial hP hD hS dX2_init_17
  exact key ss.heap [] rfl rfl hP hS
set_option maxRecDepth 100000 in
set_option maxHeartbeats 4000000 in
theorem ctX5 (l : Launch) (D : va_G) (k : Nat → ClassId) (h0 : Nat) : CtK l D k yX5_init wsX5_init ({ frames := 1, cells := 1, slots := 40, locals := 12 } : Room) [.ref h0] [(h0, .inr (5, [.null, .int 0, .int 0]))] (S := Nat) (fun u => [(h0, .inr (5, [.ref u, .int (-1), .int 0])), (u, .inl (k 1, 40, .inr (.inl (fun _ => 0))))]) (fun u => True) 1 40 := by
  intro sz9
  refine cStK (lv := [(0, .ref h0)]) (own := RX5) (cc := cX5_init) (nL := 1) (by decide +kernel) rfl rfl rfl (Nat.le_of_ble_eq_true rfl) rfl ?_
  intro pp ee ss mm bl me co hsz hC0 hP hD hS ls hl
  subst hsz
  obtain ⟨hx, hb, hr, hml, hown, hts, hK, hlk, hin, hO⟩ := hC0
  have hA : ∀ q, ss.heap.size ≤ q → va_A [(h0, .inr (5, [.null, .int 0, .int 0]))] ss.heap.size q := fun q h => Or.inr h
  have w1 := hts (.methodLink RX5 3 objectInit) (List.mem_of_getElem? (i := 1) rfl)
  have w2 := hts (.instanceMethod objectInit) (List.mem_of_getElem? (i := 2) rfl)
  have w3 := hts (.code objectInit ⟨#[0xb1]⟩ 1 none) (List.mem_of_getElem? (i := 3) rfl)
  have w4 := hts (.arrayClass .long) (List.mem_of_getElem? (i := 4) rfl)
  have iX5 : ∀ w ∈ wsX50, w ∈ wsX5_init := fun _ h => List.mem_cons_of_mem _ (List.mem_append_right _ h)
  have w5 := hts (.fieldLink RX5 9 "DeadListPool$Sheet" "row" "[J") (List.mem_of_getElem? (i := 5) rfl)
  have w6 := hts (.fieldLink RX5 15 "DeadListPool$Sheet" "sort" "I") (List.mem_of_getElem? (i := 6) rfl)
  have w7 := hts (.fieldLink RX5 19 "DeadListPool$Sheet" "length" "I") (List.mem_of_getElem? (i := 7) rfl)
  have key : ∀ (H : Heap) (locs : List Loc), H = ss.heap → locs = [] → va_P D vwCl [(h0, .inr (5, [.null, .int 0, .int 0]))] H → va_S (va_A [(h0, .inr (5, [.null, .int 0, .int 0]))] ss.heap.size) ss.heap H locs → W pp l ee ({ frames := 1, cells := 1, slots := 40, locals := 12 } : Room) ss mm ([.ref h0] : List Value).toArray bl me co H locs 0 0 (MQ bl (va_Qv (fun u : Nat => True) (kB D k (fun u : Nat => [(h0, .inr (5, [.ref u, .int (-1), .int 0])), (u, .inl (k 1, 40, .inr (.inl (fun _ => 0))))]) [(h0, .inr (5, [.null, .int 0, .int 0]))] ss.heap.size) (va_A [(h0, .inr (5, [.null, .int 0, .int 0]))] ss.heap.size)) ([.ref h0] : List Value).toArray ss 1 40 (va_A [(h0, .inr (5, [.null, .int 0, .int 0]))] ss.heap.size)) (F0 mm 0 ls []) := by
    intro H locs _ _ hP hS
    refine lv_aload_n hx hb dX5_init_0 rfl (lv_at hl 0 rfl) ?_
    refine W.objInit hx hb hown w1 w2 w3 rfl (by rw [hml]; exact hl.1) rfl dX5_init_1 (Nat.le_of_ble_eq_true rfl) (Nat.le_of_ble_eq_true rfl) ?_
    refine W.eq (g2 := F0 mm 4 ls []) rfl ?_
    refine lv_aload_n hx hb dX5_init_4 rfl (lv_at hl 0 rfl) ?_
    refine lv_bipush (v := 40) hx hb dX5_init_5 (by decide) ?_
    refine nwL hx hb w4 hK hP hD hS hA 40 (by decide) rfl (by decide) (Nat.le_of_ble_eq_true rfl) (Nat.le_of_ble_eq_true rfl) dX5_init_7 (fun q1 H hP hD hS => ?_)
    have hP : va_P D vwCl [(h0, .inr (5, [.null, .int 0, .int 0])), (q1, .inl (k 1, 40, .inr (.inl (fun _ => 0))))] H := hP
    have hD : va_D (va_A [(h0, .inr (5, [.null, .int 0, .int 0]))] ss.heap.size) [(h0, .inr (5, [.null, .int 0, .int 0])), (q1, .inl (k 1, 40, .inr (.inl (fun _ => 0))))] := hD
    refine W.widen (k := 1) (n := 40) (Nat.le_of_ble_eq_true rfl) (Nat.le_of_ble_eq_true rfl) ?_
    refine va_putF (D := D) (ci := 5) (v := .ref q1) (ty := .array .long) (C := RX5) (T := TX5) (N := 3) hx hb hts iX5 tyX5 tyX5_ok nmX5 hown hK hP hD hS 0 rfl rfl 0 (by decide) w5 (fun _ h9 => h9) rfl hin rfl (by decide +kernel) rfl rfl (Nat.le_of_ble_eq_true rfl) dX5_init_9 (fun H locs hP hD hS => ?_)
    have hP : va_P D vwCl [(h0, .inr (5, [.ref q1, .int 0, .int 0])), (q1, .inl (k 1, 40, .inr (.inl (fun _ => 0))))] H := hP
    have hD : va_D (va_A [(h0, .inr (5, [.null, .int 0, .int 0]))] ss.heap.size) [(h0, .inr (5, [.ref q1, .int 0, .int 0])), (q1, .inl (k 1, 40, .inr (.inl (fun _ => 0))))] := hD
    refine lv_aload_n hx hb dX5_init_12 rfl (lv_at hl 0 rfl) ?_
    refine lv_iconst (v := (-1)) hx hb dX5_init_13 (by decide) ?_
    refine va_put (D := D) (ci := 5) (v := .int (-1)) (ty := .int) (C := RX5) (T := TX5) (N := 3) hx hb hts iX5 tyX5 tyX5_ok nmX5 hown hK hP hD hS 0 rfl rfl 1 (by decide) w6 (fun _ h9 => h9) rfl (by decide +kernel) rfl rfl (Nat.le_of_ble_eq_true rfl) dX5_init_14 (fun H locs hP hD hS => ?_)
    have hP : va_P D vwCl [(h0, .inr (5, [.ref q1, .int (-1), .int 0])), (q1, .inl (k 1, 40, .inr (.inl (fun _ => 0))))] H := hP
    have hD : va_D (va_A [(h0, .inr (5, [.null, .int 0, .int 0]))] ss.heap.size) [(h0, .inr (5, [.ref q1, .int (-1), .int 0])), (q1, .inl (k 1, 40, .inr (.inl (fun _ => 0))))] := hD
    refine lv_aload_n hx hb dX5_init_17 rfl (lv_at hl 0 rfl) ?_
    refine lv_iconst (v := 0) hx hb dX5_init_18 (by decide) ?_
    refine va_put (D := D) (ci := 5) (v := .int 0) (ty := .int) (C := RX5) (T := TX5) (N := 3) hx hb hts iX5 tyX5 tyX5_ok nmX5 hown hK hP hD hS 0 rfl rfl 2 (by decide) w7 (fun _ h9 => h9) rfl (by decide +kernel) rfl rfl (Nat.le_of_ble_eq_true rfl) dX5_init_19 (fun H locs hP hD hS => ?_)
    have hP : va_P D vwCl [(h0, .inr (5, [.ref q1, .int (-1), .int 0])), (q1, .inl (k 1, 40, .inr (.inl (fun _ => 0))))] H := hP
    have hD : va_D (va_A [(h0, .inr (5, [.null, .int 0, .int 0]))] ss.heap.size) [(h0, .inr (5, [.ref q1, .int (-1), .int 0])), (q1, .inl (k 1, 40, .inr (.inl (fun _ => 0))))] := hD
    exact cRk hx hb hr hlk hK q1 trivial hP hD hS dX5_init_22
  exact key ss.heap [] rfl rfl hP hS
set_option maxRecDepth 100000 in
set_option maxHeartbeats 4000000 in
theorem ctX6 (l : Launch) (D : va_G) (k : Nat → ClassId) (h0 pa : Nat) : CtK l D k yX6_init wsX6_init ({ frames := 2, cells := 2, slots := 98, locals := 40 } : Room) [.ref h0, .ref pa] [(h0, .inr (6, [.null, .null]))] (S := Nat × Nat) (fun u => [(h0, .inr (6, [.ref pa, .ref u.1])), (u.1, .inr (2, [.ref pa, .ref u.2])), (u.2, .inl (k 0, 96, .inl (fun _ => 0)))]) (fun u => True) 2 98 := by
  intro sz9
  refine cStK (lv := [(0, .ref h0), (1, .ref pa)]) (own := RX6) (cc := cX6_init) (nL := 2) (by decide +kernel) rfl rfl rfl (Nat.le_of_ble_eq_true rfl) rfl ?_
  intro pp ee ss mm bl me co hsz hC0 hP hD hS ls hl
  subst hsz
  obtain ⟨hx, hb, hr, hml, hown, hts, hK, hlk, hin, hO⟩ := hC0
  have hA : ∀ q, ss.heap.size ≤ q → va_A [(h0, .inr (6, [.null, .null]))] ss.heap.size q := fun q h => Or.inr h
  have w1 := hts (.methodLink RX6 3 objectInit) (List.mem_of_getElem? (i := 1) rfl)
  have w2 := hts (.instanceMethod objectInit) (List.mem_of_getElem? (i := 2) rfl)
  have w3 := hts (.code objectInit ⟨#[0xb1]⟩ 1 none) (List.mem_of_getElem? (i := 3) rfl)
  have iX6 : ∀ w ∈ wsX60, w ∈ wsX6_init := fun _ h => List.mem_cons_of_mem _ (List.mem_append_left _ (List.mem_append_right _ h))
  have w4 := hts (.fieldLink RX6 9 "DeadListPool$Survey" "pool" "LDeadListPool$Pool;") (List.mem_of_getElem? (i := 4) rfl)
  have w5 := hts (.classLink RX6 15 RX2) (List.mem_of_getElem? (i := 5) rfl)
  have w6 := hts (.instantiable RX2 2) (List.mem_of_getElem? (i := 6) rfl)
  have w7 := hts (.initialized RX2) (List.mem_of_getElem? (i := 7) rfl)
  have iX2 : ∀ w ∈ wsX20, w ∈ wsX6_init := fun _ h => List.mem_cons_of_mem _ (List.mem_append_right _ h)
  have w9 := hts (.methodLink RX6 17 yX2_init) (List.mem_of_getElem? (i := 9) rfl)
  have w10 := hts (.instanceMethod yX2_init) (List.mem_of_getElem? (i := 10) rfl)
  have w8 := hts (.fieldLink RX6 20 "DeadListPool$Survey" "holders" "LDeadListPool$Holders;") (List.mem_of_getElem? (i := 8) rfl)
  have key : ∀ (H : Heap) (locs : List Loc), H = ss.heap → locs = [] → va_P D vwCl [(h0, .inr (6, [.null, .null]))] H → va_S (va_A [(h0, .inr (6, [.null, .null]))] ss.heap.size) ss.heap H locs → W pp l ee ({ frames := 2, cells := 2, slots := 98, locals := 40 } : Room) ss mm ([.ref h0, .ref pa] : List Value).toArray bl me co H locs 0 0 (MQ bl (va_Qv (fun u : Nat × Nat => True) (kB D k (fun u : Nat × Nat => [(h0, .inr (6, [.ref pa, .ref u.1])), (u.1, .inr (2, [.ref pa, .ref u.2])), (u.2, .inl (k 0, 96, .inl (fun _ => 0)))]) [(h0, .inr (6, [.null, .null]))] ss.heap.size) (va_A [(h0, .inr (6, [.null, .null]))] ss.heap.size)) ([.ref h0, .ref pa] : List Value).toArray ss 2 98 (va_A [(h0, .inr (6, [.null, .null]))] ss.heap.size)) (F0 mm 0 ls []) := by
    intro H locs _ _ hP hS
    refine lv_aload_n hx hb dX6_init_0 rfl (lv_at hl 0 rfl) ?_
    refine W.objInit hx hb hown w1 w2 w3 rfl (by rw [hml]; exact hl.1) rfl dX6_init_1 (Nat.le_of_ble_eq_true rfl) (Nat.le_of_ble_eq_true rfl) ?_
    refine W.eq (g2 := F0 mm 4 ls []) rfl ?_
    refine lv_aload_n hx hb dX6_init_4 rfl (lv_at hl 0 rfl) ?_
    refine lv_aload_n hx hb dX6_init_5 rfl (lv_at hl 1 rfl) ?_
    refine va_putF (D := D) (ci := 6) (v := .ref pa) (ty := .object "DeadListPool$Pool") (C := RX6) (T := TX6) (N := 2) hx hb hts iX6 tyX6 tyX6_ok nmX6 hown hK hP hD hS 0 rfl rfl 0 (by decide) w4 (fun _ h9 => h9) rfl hin rfl (by decide +kernel) rfl rfl (Nat.le_of_ble_eq_true rfl) dX6_init_6 (fun H locs hP hD hS => ?_)
    have hP : va_P D vwCl [(h0, .inr (6, [.ref pa, .null]))] H := hP
    have hD : va_D (va_A [(h0, .inr (6, [.null, .null]))] ss.heap.size) [(h0, .inr (6, [.ref pa, .null]))] := hD
    refine lv_aload_n hx hb dX6_init_9 rfl (lv_at hl 0 rfl) ?_
    refine va_new (ci := 2) (fs := [.null, .null]) (C := RX2) (T := TX2) (N := 2) hx hb hts iX2 tyX2 tyX2_ok hown w5 w6 w7 hK hP hD hS hA rfl (fun j hj => by rcases (show j = 0 ∨ j = 1 by omega) with rfl | rfl <;> rfl) (Nat.le_of_ble_eq_true rfl) (Nat.le_of_ble_eq_true rfl) dX6_init_10 (fun q1 H hP hD hS => ?_)
    have hP : va_P D vwCl [(h0, .inr (6, [.ref pa, .null])), (q1, .inr (2, [.null, .null]))] H := hP
    have hD : va_D (va_A [(h0, .inr (6, [.null, .null]))] ss.heap.size) [(h0, .inr (6, [.ref pa, .null])), (q1, .inr (2, [.null, .null]))] := hD
    refine W.widen (k := 1) (n := 2) (Nat.le_of_ble_eq_true rfl) (Nat.le_of_ble_eq_true rfl) ?_
    refine lv_dup hx hb dX6_init_13 rfl ?_
    refine lv_aload_n hx hb dX6_init_14 rfl (lv_at hl 1 rfl) ?_
    refine cIni (wr := [(h0, .inr (6, [.ref pa, .null]))]) (As := [.ref pa]) (rest := [.ref q1, .ref h0]) ⟨hx, hb, hml, hown, hts⟩ hK hO hA hP hD hS (ctX2 l D k q1 pa) (cwI 1 hts gX6_init_X2_init rfl rfl rfl w7 w9 w10 rfl (by decide +kernel) ⟨(Nat.le_of_ble_eq_true rfl), (Nat.le_of_ble_eq_true rfl)⟩) [1] [0] (by decide) rfl rfl (by decide) (by decide) rfl hl.1 rfl (Nat.le_of_ble_eq_true rfl) ⟨(Nat.le_of_ble_eq_true rfl), (Nat.le_of_ble_eq_true rfl)⟩ dX6_init_15 (fun u H locs hu hPn hDn hSn => ?_)
    obtain ⟨v2, rfl⟩ : ∃ z, z = u := ⟨_, rfl⟩
    have hP : va_P D vwCl [(h0, .inr (6, [.ref pa, .null])), (q1, .inr (2, [.ref pa, .ref v2])), (v2, .inl (k 0, 96, .inl (fun _ => 0)))] H := hPn
    have hD : va_D (va_A [(h0, .inr (6, [.null, .null]))] ss.heap.size) [(h0, .inr (6, [.ref pa, .null])), (q1, .inr (2, [.ref pa, .ref v2])), (v2, .inl (k 0, 96, .inl (fun _ => 0)))] := hDn
    have hS := hSn
    refine W.widen (k := 2) (n := 98) (Nat.le_of_ble_eq_true rfl) (Nat.le_of_ble_eq_true rfl) ?_
    refine va_putF (D := D) (ci := 6) (v := .ref q1) (ty := .object "DeadListPool$Holders") (C := RX6) (T := TX6) (N := 2) hx hb hts iX6 tyX6 tyX6_ok nmX6 hown hK hP hD hS 0 rfl rfl 1 (by decide) w8 (fun _ h9 => h9) rfl hin rfl (by decide +kernel) rfl rfl (Nat.le_of_ble_eq_true rfl) dX6_init_18 (fun H locs hP hD hS => ?_)
    have hP : va_P D vwCl [(h0, .inr (6, [.ref pa, .ref q1])), (q1, .inr (2, [.ref pa, .ref v2])), (v2, .inl (k 0, 96, .inl (fun _ => 0)))] H := hP
    have hD : va_D (va_A [(h0, .inr (6, [.null, .null]))] ss.heap.size) [(h0, .inr (6, [.ref pa, .ref q1])), (q1, .inr (2, [.ref pa, .ref v2])), (v2, .inl (k 0, 96, .inl (fun _ => 0)))] := hD
    exact cRk hx hb hr hlk hK (q1, v2) trivial hP hD hS dX6_init_21
  exact key ss.heap [] rfl rfl hP hS
set_option maxRecDepth 100000 in
set_option maxHeartbeats 4000000 in
theorem ctX1 (l : Launch) (D : va_G) (k : Nat → ClassId) (h0 pa : Nat) : CtK l D k yX1_init wsX1_init ({ frames := 2, cells := 4, slots := 362, locals := 40 } : Room) [.ref h0, .ref pa] [(h0, .inr (1, [.null, .null, .null, .null]))] (S := Nat × Nat × Nat × Nat) (fun u => [(h0, .inr (1, [.ref pa, .ref u.2.2.1, .ref u.1, .ref u.2.1])), (u.1, .inl (k 0, 8, .inl (fun _ => 0))), (u.2.1, .inl (k 1, 256, .inr (.inl (fun _ => 0)))), (u.2.2.1, .inr (2, [.ref pa, .ref u.2.2.2])), (u.2.2.2, .inl (k 0, 96, .inl (fun _ => 0)))]) (fun u => True) 4 362 := by
  intro sz9
  refine cStK (lv := [(0, .ref h0), (1, .ref pa)]) (own := RX1) (cc := cX1_init) (nL := 2) (by decide +kernel) rfl rfl rfl (Nat.le_of_ble_eq_true rfl) rfl ?_
  intro pp ee ss mm bl me co hsz hC0 hP hD hS ls hl
  subst hsz
  obtain ⟨hx, hb, hr, hml, hown, hts, hK, hlk, hin, hO⟩ := hC0
  have hA : ∀ q, ss.heap.size ≤ q → va_A [(h0, .inr (1, [.null, .null, .null, .null]))] ss.heap.size q := fun q h => Or.inr h
  have w1 := hts (.methodLink RX1 3 objectInit) (List.mem_of_getElem? (i := 1) rfl)
  have w2 := hts (.instanceMethod objectInit) (List.mem_of_getElem? (i := 2) rfl)
  have w3 := hts (.code objectInit ⟨#[0xb1]⟩ 1 none) (List.mem_of_getElem? (i := 3) rfl)
  have iX1 : ∀ w ∈ wsX10, w ∈ wsX1_init := fun _ h => List.mem_cons_of_mem _ (List.mem_append_left _ (List.mem_append_right _ h))
  have w4 := hts (.fieldLink RX1 9 "DeadListPool$Choice" "pool" "LDeadListPool$Pool;") (List.mem_of_getElem? (i := 4) rfl)
  have w5 := hts (.classLink RX1 15 RX2) (List.mem_of_getElem? (i := 5) rfl)
  have w6 := hts (.instantiable RX2 2) (List.mem_of_getElem? (i := 6) rfl)
  have w7 := hts (.initialized RX2) (List.mem_of_getElem? (i := 7) rfl)
  have iX2 : ∀ w ∈ wsX20, w ∈ wsX1_init := fun _ h => List.mem_cons_of_mem _ (List.mem_append_right _ h)
  have w13 := hts (.methodLink RX1 17 yX2_init) (List.mem_of_getElem? (i := 13) rfl)
  have w14 := hts (.instanceMethod yX2_init) (List.mem_of_getElem? (i := 14) rfl)
  have w8 := hts (.fieldLink RX1 20 "DeadListPool$Choice" "holders" "LDeadListPool$Holders;") (List.mem_of_getElem? (i := 8) rfl)
  have w9 := hts (.arrayClass .int) (List.mem_of_getElem? (i := 9) rfl)
  have w10 := hts (.fieldLink RX1 24 "DeadListPool$Choice" "candidates" "[I") (List.mem_of_getElem? (i := 10) rfl)
  have w11 := hts (.arrayClass .long) (List.mem_of_getElem? (i := 11) rfl)
  have w12 := hts (.fieldLink RX1 28 "DeadListPool$Choice" "freed" "[J") (List.mem_of_getElem? (i := 12) rfl)
  have key : ∀ (H : Heap) (locs : List Loc), H = ss.heap → locs = [] → va_P D vwCl [(h0, .inr (1, [.null, .null, .null, .null]))] H → va_S (va_A [(h0, .inr (1, [.null, .null, .null, .null]))] ss.heap.size) ss.heap H locs → W pp l ee ({ frames := 2, cells := 4, slots := 362, locals := 40 } : Room) ss mm ([.ref h0, .ref pa] : List Value).toArray bl me co H locs 0 0 (MQ bl (va_Qv (fun u : Nat × Nat × Nat × Nat => True) (kB D k (fun u : Nat × Nat × Nat × Nat => [(h0, .inr (1, [.ref pa, .ref u.2.2.1, .ref u.1, .ref u.2.1])), (u.1, .inl (k 0, 8, .inl (fun _ => 0))), (u.2.1, .inl (k 1, 256, .inr (.inl (fun _ => 0)))), (u.2.2.1, .inr (2, [.ref pa, .ref u.2.2.2])), (u.2.2.2, .inl (k 0, 96, .inl (fun _ => 0)))]) [(h0, .inr (1, [.null, .null, .null, .null]))] ss.heap.size) (va_A [(h0, .inr (1, [.null, .null, .null, .null]))] ss.heap.size)) ([.ref h0, .ref pa] : List Value).toArray ss 4 362 (va_A [(h0, .inr (1, [.null, .null, .null, .null]))] ss.heap.size)) (F0 mm 0 ls []) := by
    intro H locs _ _ hP hS
    refine lv_aload_n hx hb dX1_init_0 rfl (lv_at hl 0 rfl) ?_
    refine W.objInit hx hb hown w1 w2 w3 rfl (by rw [hml]; exact hl.1) rfl dX1_init_1 (Nat.le_of_ble_eq_true rfl) (Nat.le_of_ble_eq_true rfl) ?_
    refine W.eq (g2 := F0 mm 4 ls []) rfl ?_
    refine lv_aload_n hx hb dX1_init_4 rfl (lv_at hl 0 rfl) ?_
    refine lv_aload_n hx hb dX1_init_5 rfl (lv_at hl 1 rfl) ?_
    refine va_putF (D := D) (ci := 1) (v := .ref pa) (ty := .object "DeadListPool$Pool") (C := RX1) (T := TX1) (N := 4) hx hb hts iX1 tyX1 tyX1_ok nmX1 hown hK hP hD hS 0 rfl rfl 0 (by decide) w4 (fun _ h9 => h9) rfl hin rfl (by decide +kernel) rfl rfl (Nat.le_of_ble_eq_true rfl) dX1_init_6 (fun H locs hP hD hS => ?_)
    have hP : va_P D vwCl [(h0, .inr (1, [.ref pa, .null, .null, .null]))] H := hP
    have hD : va_D (va_A [(h0, .inr (1, [.null, .null, .null, .null]))] ss.heap.size) [(h0, .inr (1, [.ref pa, .null, .null, .null]))] := hD
    refine lv_aload_n hx hb dX1_init_9 rfl (lv_at hl 0 rfl) ?_
    refine va_new (ci := 2) (fs := [.null, .null]) (C := RX2) (T := TX2) (N := 2) hx hb hts iX2 tyX2 tyX2_ok hown w5 w6 w7 hK hP hD hS hA rfl (fun j hj => by rcases (show j = 0 ∨ j = 1 by omega) with rfl | rfl <;> rfl) (Nat.le_of_ble_eq_true rfl) (Nat.le_of_ble_eq_true rfl) dX1_init_10 (fun q1 H hP hD hS => ?_)
    have hP : va_P D vwCl [(h0, .inr (1, [.ref pa, .null, .null, .null])), (q1, .inr (2, [.null, .null]))] H := hP
    have hD : va_D (va_A [(h0, .inr (1, [.null, .null, .null, .null]))] ss.heap.size) [(h0, .inr (1, [.ref pa, .null, .null, .null])), (q1, .inr (2, [.null, .null]))] := hD
    refine W.widen (k := 1) (n := 2) (Nat.le_of_ble_eq_true rfl) (Nat.le_of_ble_eq_true rfl) ?_
    refine lv_dup hx hb dX1_init_13 rfl ?_
    refine lv_aload_n hx hb dX1_init_14 rfl (lv_at hl 1 rfl) ?_
    refine cIni (wr := [(h0, .inr (1, [.ref pa, .null, .null, .null]))]) (As := [.ref pa]) (rest := [.ref q1, .ref h0]) ⟨hx, hb, hml, hown, hts⟩ hK hO hA hP hD hS (ctX2 l D k q1 pa) (cwI 1 hts gX1_init_X2_init rfl rfl rfl w7 w13 w14 rfl (by decide +kernel) ⟨(Nat.le_of_ble_eq_true rfl), (Nat.le_of_ble_eq_true rfl)⟩) [1] [0] (by decide) rfl rfl (by decide) (by decide) rfl hl.1 rfl (Nat.le_of_ble_eq_true rfl) ⟨(Nat.le_of_ble_eq_true rfl), (Nat.le_of_ble_eq_true rfl)⟩ dX1_init_15 (fun u H locs hu hPn hDn hSn => ?_)
    obtain ⟨v2, rfl⟩ : ∃ z, z = u := ⟨_, rfl⟩
    have hP : va_P D vwCl [(h0, .inr (1, [.ref pa, .null, .null, .null])), (q1, .inr (2, [.ref pa, .ref v2])), (v2, .inl (k 0, 96, .inl (fun _ => 0)))] H := hPn
    have hD : va_D (va_A [(h0, .inr (1, [.null, .null, .null, .null]))] ss.heap.size) [(h0, .inr (1, [.ref pa, .null, .null, .null])), (q1, .inr (2, [.ref pa, .ref v2])), (v2, .inl (k 0, 96, .inl (fun _ => 0)))] := hDn
    have hS := hSn
    refine W.widen (k := 2) (n := 98) (Nat.le_of_ble_eq_true rfl) (Nat.le_of_ble_eq_true rfl) ?_
    refine va_putF (D := D) (ci := 1) (v := .ref q1) (ty := .object "DeadListPool$Holders") (C := RX1) (T := TX1) (N := 4) hx hb hts iX1 tyX1 tyX1_ok nmX1 hown hK hP hD hS 0 rfl rfl 1 (by decide) w8 (fun _ h9 => h9) rfl hin rfl (by decide +kernel) rfl rfl (Nat.le_of_ble_eq_true rfl) dX1_init_18 (fun H locs hP hD hS => ?_)
    have hP : va_P D vwCl [(h0, .inr (1, [.ref pa, .ref q1, .null, .null])), (q1, .inr (2, [.ref pa, .ref v2])), (v2, .inl (k 0, 96, .inl (fun _ => 0)))] H := hP
    have hD : va_D (va_A [(h0, .inr (1, [.null, .null, .null, .null]))] ss.heap.size) [(h0, .inr (1, [.ref pa, .ref q1, .null, .null])), (q1, .inr (2, [.ref pa, .ref v2])), (v2, .inl (k 0, 96, .inl (fun _ => 0)))] := hD
    refine lv_aload_n hx hb dX1_init_21 rfl (lv_at hl 0 rfl) ?_
    refine lv_bipush (v := 8) hx hb dX1_init_22 (by decide) ?_
    refine nwI hx hb w9 hK hP hD hS hA 8 (by decide) rfl (by decide) (Nat.le_of_ble_eq_true rfl) (Nat.le_of_ble_eq_true rfl) dX1_init_24 (fun q3 H hP hD hS => ?_)
    have hP : va_P D vwCl [(h0, .inr (1, [.ref pa, .ref q1, .null, .null])), (q1, .inr (2, [.ref pa, .ref v2])), (v2, .inl (k 0, 96, .inl (fun _ => 0))), (q3, .inl (k 0, 8, .inl (fun _ => 0)))] H := hP
    have hD : va_D (va_A [(h0, .inr (1, [.null, .null, .null, .null]))] ss.heap.size) [(h0, .inr (1, [.ref pa, .ref q1, .null, .null])), (q1, .inr (2, [.ref pa, .ref v2])), (v2, .inl (k 0, 96, .inl (fun _ => 0))), (q3, .inl (k 0, 8, .inl (fun _ => 0)))] := hD
    refine W.widen (k := 3) (n := 106) (Nat.le_of_ble_eq_true rfl) (Nat.le_of_ble_eq_true rfl) ?_
    refine va_putF (D := D) (ci := 1) (v := .ref q3) (ty := .array .int) (C := RX1) (T := TX1) (N := 4) hx hb hts iX1 tyX1 tyX1_ok nmX1 hown hK hP hD hS 0 rfl rfl 2 (by decide) w10 (fun _ h9 => h9) rfl hin rfl (by decide +kernel) rfl rfl (Nat.le_of_ble_eq_true rfl) dX1_init_26 (fun H locs hP hD hS => ?_)
    have hP : va_P D vwCl [(h0, .inr (1, [.ref pa, .ref q1, .ref q3, .null])), (q1, .inr (2, [.ref pa, .ref v2])), (v2, .inl (k 0, 96, .inl (fun _ => 0))), (q3, .inl (k 0, 8, .inl (fun _ => 0)))] H := hP
    have hD : va_D (va_A [(h0, .inr (1, [.null, .null, .null, .null]))] ss.heap.size) [(h0, .inr (1, [.ref pa, .ref q1, .ref q3, .null])), (q1, .inr (2, [.ref pa, .ref v2])), (v2, .inl (k 0, 96, .inl (fun _ => 0))), (q3, .inl (k 0, 8, .inl (fun _ => 0)))] := hD
    refine lv_aload_n hx hb dX1_init_29 rfl (lv_at hl 0 rfl) ?_
    refine lv_sipush (v := 256) hx hb dX1_init_30 (by decide) ?_
    refine nwL hx hb w11 hK hP hD hS hA 256 (by decide) rfl (by decide) (Nat.le_of_ble_eq_true rfl) (Nat.le_of_ble_eq_true rfl) dX1_init_33 (fun q4 H hP hD hS => ?_)
    have hP : va_P D vwCl [(h0, .inr (1, [.ref pa, .ref q1, .ref q3, .null])), (q1, .inr (2, [.ref pa, .ref v2])), (v2, .inl (k 0, 96, .inl (fun _ => 0))), (q3, .inl (k 0, 8, .inl (fun _ => 0))), (q4, .inl (k 1, 256, .inr (.inl (fun _ => 0))))] H := hP
    have hD : va_D (va_A [(h0, .inr (1, [.null, .null, .null, .null]))] ss.heap.size) [(h0, .inr (1, [.ref pa, .ref q1, .ref q3, .null])), (q1, .inr (2, [.ref pa, .ref v2])), (v2, .inl (k 0, 96, .inl (fun _ => 0))), (q3, .inl (k 0, 8, .inl (fun _ => 0))), (q4, .inl (k 1, 256, .inr (.inl (fun _ => 0))))] := hD
    refine W.widen (k := 4) (n := 362) (Nat.le_of_ble_eq_true rfl) (Nat.le_of_ble_eq_true rfl) ?_
    refine va_putF (D := D) (ci := 1) (v := .ref q4) (ty := .array .long) (C := RX1) (T := TX1) (N := 4) hx hb hts iX1 tyX1 tyX1_ok nmX1 hown hK hP hD hS 0 rfl rfl 3 (by decide) w12 (fun _ h9 => h9) rfl hin rfl (by decide +kernel) rfl rfl (Nat.le_of_ble_eq_true rfl) dX1_init_35 (fun H locs hP hD hS => ?_)
    have hP : va_P D vwCl [(h0, .inr (1, [.ref pa, .ref q1, .ref q3, .ref q4])), (q1, .inr (2, [.ref pa, .ref v2])), (v2, .inl (k 0, 96, .inl (fun _ => 0))), (q3, .inl (k 0, 8, .inl (fun _ => 0))), (q4, .inl (k 1, 256, .inr (.inl (fun _ => 0))))] H := hP
    have hD : va_D (va_A [(h0, .inr (1, [.null, .null, .null, .null]))] ss.heap.size) [(h0, .inr (1, [.ref pa, .ref q1, .ref q3, .ref q4])), (q1, .inr (2, [.ref pa, .ref v2])), (v2, .inl (k 0, 96, .inl (fun _ => 0))), (q3, .inl (k 0, 8, .inl (fun _ => 0))), (q4, .inl (k 1, 256, .inr (.inl (fun _ => 0))))] := hD
    have hP9 := hP.sub (ws' := [(h0, .inr (1, [.ref pa, .ref q1, .ref q3, .ref q4])), (q3, .inl (k 0, 8, .inl (fun _ => 0))), (q4, .inl (k 1, 256, .inr (.inl (fun _ => 0)))), (q1, .inr (2, [.ref pa, .ref v2])), (v2, .inl (k 0, 96, .inl (fun _ => 0)))]) [0, 3, 4, 1, 2] rfl
    have hD9 := hD.sub (ws' := [(h0, .inr (1, [.ref pa, .ref q1, .ref q3, .ref q4])), (q3, .inl (k 0, 8, .inl (fun _ => 0))), (q4, .inl (k 1, 256, .inr (.inl (fun _ => 0)))), (q1, .inr (2, [.ref pa, .ref v2])), (v2, .inl (k 0, 96, .inl (fun _ => 0)))]) [0, 3, 4, 1, 2] (by decide) rfl
    exact cRk hx hb hr hlk hK (q3, q4, q1, v2) trivial hP9 hD9 hS dX1_init_38
  exact key ss.heap [] rfl rfl hP hS
set_option maxRecDepth 100000 in
set_option maxHeartbeats 4000000 in
theorem ctX4 (l : Launch) (D : va_G) (k : Nat → ClassId) (h0 : Nat) : CtK l D k yX4_init wsX4_init ({ frames := 1, cells := 9, slots := 552, locals := 12 } : Room) [.ref h0] [(h0, .inr (4, [.null, .null, .null, .null, .null, .null, .null, .null, .null, .int 0, .int 0]))] (S := (Nat → Nat) × PSt) (fun u => wPool k u.1 u.2) (fun u => u.1 0 = h0 ∧ IniP u.2) 9 552 := by
  intro sz9
  refine cStK (lv := [(0, .ref h0)]) (own := RX4) (cc := cX4_init) (nL := 2) (by decide +kernel) rfl rfl rfl (Nat.le_of_ble_eq_true rfl) rfl ?_
  intro pp ee ss mm bl me co hsz hC0 hP hD hS ls hl
  subst hsz
  obtain ⟨hx, hb, hr, hml, hown, hts, hK, hlk, hin, hO⟩ := hC0
  have hA : ∀ q, ss.heap.size ≤ q → va_A [(h0, .inr (4, [.null, .null, .null, .null, .null, .null, .null, .null, .null, .int 0, .int 0]))] ss.heap.size q := fun q h => Or.inr h
  have w1 := hts (.methodLink RX4 3 objectInit) (List.mem_of_getElem? (i := 1) rfl)
  have w2 := hts (.instanceMethod objectInit) (List.mem_of_getElem? (i := 2) rfl)
  have w3 := hts (.code objectInit ⟨#[0xb1]⟩ 1 none) (List.mem_of_getElem? (i := 3) rfl)
  have w4 := hts (.arrayClass .int) (List.mem_of_getElem? (i := 4) rfl)
  have iX4 : ∀ w ∈ wsX40, w ∈ wsX4_init := fun _ h => List.mem_cons_of_mem _ (List.mem_append_right _ h)
  have w5 := hts (.fieldLink RX4 9 "DeadListPool$Pool" "kind" "[I") (List.mem_of_getElem? (i := 5) rfl)
  have w6 := hts (.fieldLink RX4 15 "DeadListPool$Pool" "made" "[I") (List.mem_of_getElem? (i := 6) rfl)
  have w7 := hts (.fieldLink RX4 18 "DeadListPool$Pool" "prev" "[I") (List.mem_of_getElem? (i := 7) rfl)
  have w8 := hts (.fieldLink RX4 21 "DeadListPool$Pool" "owner" "[I") (List.mem_of_getElem? (i := 8) rfl)
  have w9 := hts (.fieldLink RX4 24 "DeadListPool$Pool" "tags" "[I") (List.mem_of_getElem? (i := 9) rfl)
  have w10 := hts (.fieldLink RX4 27 "DeadListPool$Pool" "quota" "[I") (List.mem_of_getElem? (i := 10) rfl)
  have w11 := hts (.fieldLink RX4 30 "DeadListPool$Pool" "held" "[I") (List.mem_of_getElem? (i := 11) rfl)
  have w12 := hts (.fieldLink RX4 33 "DeadListPool$Pool" "size" "[I") (List.mem_of_getElem? (i := 12) rfl)
  have w13 := hts (.fieldLink RX4 36 "DeadListPool$Pool" "birth" "[I") (List.mem_of_getElem? (i := 13) rfl)
  have w14 := hts (.fieldLink RX4 39 "DeadListPool$Pool" "time" "I") (List.mem_of_getElem? (i := 14) rfl)
  have w15 := hts (.fieldLink RX4 43 "DeadListPool$Pool" "freed" "I") (List.mem_of_getElem? (i := 15) rfl)
  have key : ∀ (H : Heap) (locs : List Loc), H = ss.heap → locs = [] → va_P D vwCl [(h0, .inr (4, [.null, .null, .null, .null, .null, .null, .null, .null, .null, .int 0, .int 0]))] H → va_S (va_A [(h0, .inr (4, [.null, .null, .null, .null, .null, .null, .null, .null, .null, .int 0, .int 0]))] ss.heap.size) ss.heap H locs → W pp l ee ({ frames := 1, cells := 9, slots := 552, locals := 12 } : Room) ss mm ([.ref h0] : List Value).toArray bl me co H locs 0 0 (MQ bl (va_Qv (fun u : (Nat → Nat) × PSt => u.1 0 = h0 ∧ IniP u.2) (kB D k (fun u : (Nat → Nat) × PSt => wPool k u.1 u.2) [(h0, .inr (4, [.null, .null, .null, .null, .null, .null, .null, .null, .null, .int 0, .int 0]))] ss.heap.size) (va_A [(h0, .inr (4, [.null, .null, .null, .null, .null, .null, .null, .null, .null, .int 0, .int 0]))] ss.heap.size)) ([.ref h0] : List Value).toArray ss 9 552 (va_A [(h0, .inr (4, [.null, .null, .null, .null, .null, .null, .null, .null, .null, .int 0, .int 0]))] ss.heap.size)) (F0 mm 0 ls []) := by
    intro H locs _ _ hP hS
    refine lv_aload_n hx hb dX4_init_0 rfl (lv_at hl 0 rfl) ?_
    refine W.objInit hx hb hown w1 w2 w3 rfl (by rw [hml]; exact hl.1) rfl dX4_init_1 (Nat.le_of_ble_eq_true rfl) (Nat.le_of_ble_eq_true rfl) ?_
    refine W.eq (g2 := F0 mm 4 ls []) rfl ?_
    refine lv_aload_n hx hb dX4_init_4 rfl (lv_at hl 0 rfl) ?_
    refine lv_bipush (v := 20) hx hb dX4_init_5 (by decide) ?_
    refine nwI hx hb w4 hK hP hD hS hA 20 (by decide) rfl (by decide) (Nat.le_of_ble_eq_true rfl) (Nat.le_of_ble_eq_true rfl) dX4_init_7 (fun q1 H hP hD hS => ?_)
    have hP : va_P D vwCl [(h0, .inr (4, [.null, .null, .null, .null, .null, .null, .null, .null, .null, .int 0, .int 0])), (q1, .inl (k 0, 20, .inl (fun _ => 0)))] H := hP
    have hD : va_D (va_A [(h0, .inr (4, [.null, .null, .null, .null, .null, .null, .null, .null, .null, .int 0, .int 0]))] ss.heap.size) [(h0, .inr (4, [.null, .null, .null, .null, .null, .null, .null, .null, .null, .int 0, .int 0])), (q1, .inl (k 0, 20, .inl (fun _ => 0)))] := hD
    refine W.widen (k := 1) (n := 20) (Nat.le_of_ble_eq_true rfl) (Nat.le_of_ble_eq_true rfl) ?_
    refine va_putF (D := D) (ci := 4) (v := .ref q1) (ty := .array .int) (C := RX4) (T := TX4) (N := 11) hx hb hts iX4 tyX4 tyX4_ok nmX4 hown hK hP hD hS 0 rfl rfl 0 (by decide) w5 (fun _ h9 => h9) rfl hin rfl (by decide +kernel) rfl rfl (Nat.le_of_ble_eq_true rfl) dX4_init_9 (fun H locs hP hD hS => ?_)
    have hP : va_P D vwCl [(h0, .inr (4, [.ref q1, .null, .null, .null, .null, .null, .null, .null, .null, .int 0, .int 0])), (q1, .inl (k 0, 20, .inl (fun _ => 0)))] H := hP
    have hD : va_D (va_A [(h0, .inr (4, [.null, .null, .null, .null, .null, .null, .null, .null, .null, .int 0, .int 0]))] ss.heap.size) [(h0, .inr (4, [.ref q1, .null, .null, .null, .null, .null, .null, .null, .null, .int 0, .int 0])), (q1, .inl (k 0, 20, .inl (fun _ => 0)))] := hD
    refine lv_aload_n hx hb dX4_init_12 rfl (lv_at hl 0 rfl) ?_
    refine lv_bipush (v := 20) hx hb dX4_init_13 (by decide) ?_
    refine nwI hx hb w4 hK hP hD hS hA 20 (by decide) rfl (by decide) (Nat.le_of_ble_eq_true rfl) (Nat.le_of_ble_eq_true rfl) dX4_init_15 (fun q2 H hP hD hS => ?_)
    have hP : va_P D vwCl [(h0, .inr (4, [.ref q1, .null, .null, .null, .null, .null, .null, .null, .null, .int 0, .int 0])), (q1, .inl (k 0, 20, .inl (fun _ => 0))), (q2, .inl (k 0, 20, .inl (fun _ => 0)))] H := hP
    have hD : va_D (va_A [(h0, .inr (4, [.null, .null, .null, .null, .null, .null, .null, .null, .null, .int 0, .int 0]))] ss.heap.size) [(h0, .inr (4, [.ref q1, .null, .null, .null, .null, .null, .null, .null, .null, .int 0, .int 0])), (q1, .inl (k 0, 20, .inl (fun _ => 0))), (q2, .inl (k 0, 20, .inl (fun _ => 0)))] := hD
    refine W.widen (k := 2) (n := 40) (Nat.le_of_ble_eq_true rfl) (Nat.le_of_ble_eq_true rfl) ?_
    refine va_putF (D := D) (ci := 4) (v := .ref q2) (ty := .array .int) (C := RX4) (T := TX4) (N := 11) hx hb hts iX4 tyX4 tyX4_ok nmX4 hown hK hP hD hS 0 rfl rfl 1 (by decide) w6 (fun _ h9 => h9) rfl hin rfl (by decide +kernel) rfl rfl (Nat.le_of_ble_eq_true rfl) dX4_init_17 (fun H locs hP hD hS => ?_)
    have hP : va_P D vwCl [(h0, .inr (4, [.ref q1, .ref q2, .null, .null, .null, .null, .null, .null, .null, .int 0, .int 0])), (q1, .inl (k 0, 20, .inl (fun _ => 0))), (q2, .inl (k 0, 20, .inl (fun _ => 0)))] H := hP
    have hD : va_D (va_A [(h0, .inr (4, [.null, .null, .null, .null, .null, .null, .null, .null, .null, .int 0, .int 0]))] ss.heap.size) [(h0, .inr (4, [.ref q1, .ref q2, .null, .null, .null, .null, .null, .null, .null, .int 0, .int 0])), (q1, .inl (k 0, 20, .inl (fun _ => 0))), (q2, .inl (k 0, 20, .inl (fun _ => 0)))] := hD
    refine lv_aload_n hx hb dX4_init_20 rfl (lv_at hl 0 rfl) ?_
    refine lv_bipush (v := 20) hx hb dX4_init_21 (by decide) ?_
    refine nwI hx hb w4 hK hP hD hS hA 20 (by decide) rfl (by decide) (Nat.le_of_ble_eq_true rfl) (Nat.le_of_ble_eq_true rfl) dX4_init_23 (fun q3 H hP hD hS => ?_)
    have hP : va_P D vwCl [(h0, .inr (4, [.ref q1, .ref q2, .null, .null, .null, .null, .null, .null, .null, .int 0, .int 0])), (q1, .inl (k 0, 20, .inl (fun _ => 0))), (q2, .inl (k 0, 20, .inl (fun _ => 0))), (q3, .inl (k 0, 20, .inl (fun _ => 0)))] H := hP
    have hD : va_D (va_A [(h0, .inr (4, [.null, .null, .null, .null, .null, .null, .null, .null, .null, .int 0, .int 0]))] ss.heap.size) [(h0, .inr (4, [.ref q1, .ref q2, .null, .null, .null, .null, .null, .null, .null, .int 0, .int 0])), (q1, .inl (k 0, 20, .inl (fun _ => 0))), (q2, .inl (k 0, 20, .inl (fun _ => 0))), (q3, .inl (k 0, 20, .inl (fun _ => 0)))] := hD
    refine W.widen (k := 3) (n := 60) (Nat.le_of_ble_eq_true rfl) (Nat.le_of_ble_eq_true rfl) ?_
    refine va_putF (D := D) (ci := 4) (v := .ref q3) (ty := .array .int) (C := RX4) (T := TX4) (N := 11) hx hb hts iX4 tyX4 tyX4_ok nmX4 hown hK hP hD hS 0 rfl rfl 2 (by decide) w7 (fun _ h9 => h9) rfl hin rfl (by decide +kernel) rfl rfl (Nat.le_of_ble_eq_true rfl) dX4_init_25 (fun H locs hP hD hS => ?_)
    have hP : va_P D vwCl [(h0, .inr (4, [.ref q1, .ref q2, .ref q3, .null, .null, .null, .null, .null, .null, .int 0, .int 0])), (q1, .inl (k 0, 20, .inl (fun _ => 0))), (q2, .inl (k 0, 20, .inl (fun _ => 0))), (q3, .inl (k 0, 20, .inl (fun _ => 0)))] H := hP
    have hD : va_D (va_A [(h0, .inr (4, [.null, .null, .null, .null, .null, .null, .null, .null, .null, .int 0, .int 0]))] ss.heap.size) [(h0, .inr (4, [.ref q1, .ref q2, .ref q3, .null, .null, .null, .null, .null, .null, .int 0, .int 0])), (q1, .inl (k 0, 20, .inl (fun _ => 0))), (q2, .inl (k 0, 20, .inl (fun _ => 0))), (q3, .inl (k 0, 20, .inl (fun _ => 0)))] := hD
    refine lv_aload_n hx hb dX4_init_28 rfl (lv_at hl 0 rfl) ?_
    refine lv_bipush (v := 20) hx hb dX4_init_29 (by decide) ?_
    refine nwI hx hb w4 hK hP hD hS hA 20 (by decide) rfl (by decide) (Nat.le_of_ble_eq_true rfl) (Nat.le_of_ble_eq_true rfl) dX4_init_31 (fun q4 H hP hD hS => ?_)
    have hP : va_P D vwCl [(h0, .inr (4, [.ref q1, .ref q2, .ref q3, .null, .null, .null, .null, .null, .null, .int 0, .int 0])), (q1, .inl (k 0, 20, .inl (fun _ => 0))), (q2, .inl (k 0, 20, .inl (fun _ => 0))), (q3, .inl (k 0, 20, .inl (fun _ => 0))), (q4, .inl (k 0, 20, .inl (fun _ => 0)))] H := hP
    have hD : va_D (va_A [(h0, .inr (4, [.null, .null, .null, .null, .null, .null, .null, .null, .null, .int 0, .int 0]))] ss.heap.size) [(h0, .inr (4, [.ref q1, .ref q2, .ref q3, .null, .null, .null, .null, .null, .null, .int 0, .int 0])), (q1, .inl (k 0, 20, .inl (fun _ => 0))), (q2, .inl (k 0, 20, .inl (fun _ => 0))), (q3, .inl (k 0, 20, .inl (fun _ => 0))), (q4, .inl (k 0, 20, .inl (fun _ => 0)))] := hD
    refine W.widen (k := 4) (n := 80) (Nat.le_of_ble_eq_true rfl) (Nat.le_of_ble_eq_true rfl) ?_
    refine va_putF (D := D) (ci := 4) (v := .ref q4) (ty := .array .int) (C := RX4) (T := TX4) (N := 11) hx hb hts iX4 tyX4 tyX4_ok nmX4 hown hK hP hD hS 0 rfl rfl 3 (by decide) w8 (fun _ h9 => h9) rfl hin rfl (by decide +kernel) rfl rfl (Nat.le_of_ble_eq_true rfl) dX4_init_33 (fun H locs hP hD hS => ?_)
    have hP : va_P D vwCl [(h0, .inr (4, [.ref q1, .ref q2, .ref q3, .ref q4, .null, .null, .null, .null, .null, .int 0, .int 0])), (q1, .inl (k 0, 20, .inl (fun _ => 0))), (q2, .inl (k 0, 20, .inl (fun _ => 0))), (q3, .inl (k 0, 20, .inl (fun _ => 0))), (q4, .inl (k 0, 20, .inl (fun _ => 0)))] H := hP
    have hD : va_D (va_A [(h0, .inr (4, [.null, .null, .null, .null, .null, .null, .null, .null, .null, .int 0, .int 0]))] ss.heap.size) [(h0, .inr (4, [.ref q1, .ref q2, .ref q3, .ref q4, .null, .null, .null, .null, .null, .int 0, .int 0])), (q1, .inl (k 0, 20, .inl (fun _ => 0))), (q2, .inl (k 0, 20, .inl (fun _ => 0))), (q3, .inl (k 0, 20, .inl (fun _ => 0))), (q4, .inl (k 0, 20, .inl (fun _ => 0)))] := hD
    refine lv_aload_n hx hb dX4_init_36 rfl (lv_at hl 0 rfl) ?_
    refine lv_bipush (v := 20) hx hb dX4_init_37 (by decide) ?_
    refine nwI hx hb w4 hK hP hD hS hA 20 (by decide) rfl (by decide) (Nat.le_of_ble_eq_true rfl) (Nat.le_of_ble_eq_true rfl) dX4_init_39 (fun q5 H hP hD hS => ?_)
    have hP : va_P D vwCl [(h0, .inr (4, [.ref q1, .ref q2, .ref q3, .ref q4, .null, .null, .null, .null, .null, .int 0, .int 0])), (q1, .inl (k 0, 20, .inl (fun _ => 0))), (q2, .inl (k 0, 20, .inl (fun _ => 0))), (q3, .inl (k 0, 20, .inl (fun _ => 0))), (q4, .inl (k 0, 20, .inl (fun _ => 0))), (q5, .inl (k 0, 20, .inl (fun _ => 0)))] H := hP
    have hD : va_D (va_A [(h0, .inr (4, [.null, .null, .null, .null, .null, .null, .null, .null, .null, .int 0, .int 0]))] ss.heap.size) [(h0, .inr (4, [.ref q1, .ref q2, .ref q3, .ref q4, .null, .null, .null, .null, .null, .int 0, .int 0])), (q1, .inl (k 0, 20, .inl (fun _ => 0))), (q2, .inl (k 0, 20, .inl (fun _ => 0))), (q3, .inl (k 0, 20, .inl (fun _ => 0))), (q4, .inl (k 0, 20, .inl (fun _ => 0))), (q5, .inl (k 0, 20, .inl (fun _ => 0)))] := hD
    refine W.widen (k := 5) (n := 100) (Nat.le_of_ble_eq_true rfl) (Nat.le_of_ble_eq_true rfl) ?_
    refine va_putF (D := D) (ci := 4) (v := .ref q5) (ty := .array .int) (C := RX4) (T := TX4) (N := 11) hx hb hts iX4 tyX4 tyX4_ok nmX4 hown hK hP hD hS 0 rfl rfl 4 (by decide) w9 (fun _ h9 => h9) rfl hin rfl (by decide +kernel) rfl rfl (Nat.le_of_ble_eq_true rfl) dX4_init_41 (fun H locs hP hD hS => ?_)
    have hP : va_P D vwCl [(h0, .inr (4, [.ref q1, .ref q2, .ref q3, .ref q4, .ref q5, .null, .null, .null, .null, .int 0, .int 0])), (q1, .inl (k 0, 20, .inl (fun _ => 0))), (q2, .inl (k 0, 20, .inl (fun _ => 0))), (q3, .inl (k 0, 20, .inl (fun _ => 0))), (q4, .inl (k 0, 20, .inl (fun _ => 0))), (q5, .inl (k 0, 20, .inl (fun _ => 0)))] H := hP
    have hD : va_D (va_A [(h0, .inr (4, [.null, .null, .null, .null, .null, .null, .null, .null, .null, .int 0, .int 0]))] ss.heap.size) [(h0, .inr (4, [.ref q1, .ref q2, .ref q3, .ref q4, .ref q5, .null, .null, .null, .null, .int 0, .int 0])), (q1, .inl (k 0, 20, .inl (fun _ => 0))), (q2, .inl (k 0, 20, .inl (fun _ => 0))), (q3, .inl (k 0, 20, .inl (fun _ => 0))), (q4, .inl (k 0, 20, .inl (fun _ => 0))), (q5, .inl (k 0, 20, .inl (fun _ => 0)))] := hD
    refine lv_aload_n hx hb dX4_init_44 rfl (lv_at hl 0 rfl) ?_
    refine lv_bipush (v := 20) hx hb dX4_init_45 (by decide) ?_
    refine nwI hx hb w4 hK hP hD hS hA 20 (by decide) rfl (by decide) (Nat.le_of_ble_eq_true rfl) (Nat.le_of_ble_eq_true rfl) dX4_init_47 (fun q6 H hP hD hS => ?_)
    have hP : va_P D vwCl [(h0, .inr (4, [.ref q1, .ref q2, .ref q3, .ref q4, .ref q5, .null, .null, .null, .null, .int 0, .int 0])), (q1, .inl (k 0, 20, .inl (fun _ => 0))), (q2, .inl (k 0, 20, .inl (fun _ => 0))), (q3, .inl (k 0, 20, .inl (fun _ => 0))), (q4, .inl (k 0, 20, .inl (fun _ => 0))), (q5, .inl (k 0, 20, .inl (fun _ => 0))), (q6, .inl (k 0, 20, .inl (fun _ => 0)))] H := hP
    have hD : va_D (va_A [(h0, .inr (4, [.null, .null, .null, .null, .null, .null, .null, .null, .null, .int 0, .int 0]))] ss.heap.size) [(h0, .inr (4, [.ref q1, .ref q2, .ref q3, .ref q4, .ref q5, .null, .null, .null, .null, .int 0, .int 0])), (q1, .inl (k 0, 20, .inl (fun _ => 0))), (q2, .inl (k 0, 20, .inl (fun _ => 0))), (q3, .inl (k 0, 20, .inl (fun _ => 0))), (q4, .inl (k 0, 20, .inl (fun _ => 0))), (q5, .inl (k 0, 20, .inl (fun _ => 0))), (q6, .inl (k 0, 20, .inl (fun _ => 0)))] := hD
    refine W.widen (k := 6) (n := 120) (Nat.le_of_ble_eq_true rfl) (Nat.le_of_ble_eq_true rfl) ?_
    refine va_putF (D := D) (ci := 4) (v := .ref q6) (ty := .array .int) (C := RX4) (T := TX4) (N := 11) hx hb hts iX4 tyX4 tyX4_ok nmX4 hown hK hP hD hS 0 rfl rfl 5 (by decide) w10 (fun _ h9 => h9) rfl hin rfl (by decide +kernel) rfl rfl (Nat.le_of_ble_eq_true rfl) dX4_init_49 (fun H locs hP hD hS => ?_)
    have hP : va_P D vwCl [(h0, .inr (4, [.ref q1, .ref q2, .ref q3, .ref q4, .ref q5, .ref q6, .null, .null, .null, .int 0, .int 0])), (q1, .inl (k 0, 20, .inl (fun _ => 0))), (q2, .inl (k 0, 20, .inl (fun _ => 0))), (q3, .inl (k 0, 20, .inl (fun _ => 0))), (q4, .inl (k 0, 20, .inl (fun _ => 0))), (q5, .inl (k 0, 20, .inl (fun _ => 0))), (q6, .inl (k 0, 20, .inl (fun _ => 0)))] H := hP
    have hD : va_D (va_A [(h0, .inr (4, [.null, .null, .null, .null, .null, .null, .null, .null, .null, .int 0, .int 0]))] ss.heap.size) [(h0, .inr (4, [.ref q1, .ref q2, .ref q3, .ref q4, .ref q5, .ref q6, .null, .null, .null, .int 0, .int 0])), (q1, .inl (k 0, 20, .inl (fun _ => 0))), (q2, .inl (k 0, 20, .inl (fun _ => 0))), (q3, .inl (k 0, 20, .inl (fun _ => 0))), (q4, .inl (k 0, 20, .inl (fun _ => 0))), (q5, .inl (k 0, 20, .inl (fun _ => 0))), (q6, .inl (k 0, 20, .inl (fun _ => 0)))] := hD
    refine lv_aload_n hx hb dX4_init_52 rfl (lv_at hl 0 rfl) ?_
    refine lv_sipush (v := 240) hx hb dX4_init_53 (by decide) ?_
    refine nwI hx hb w4 hK hP hD hS hA 240 (by decide) rfl (by decide) (Nat.le_of_ble_eq_true rfl) (Nat.le_of_ble_eq_true rfl) dX4_init_56 (fun q7 H hP hD hS => ?_)
    have hP : va_P D vwCl [(h0, .inr (4, [.ref q1, .ref q2, .ref q3, .ref q4, .ref q5, .ref q6, .null, .null, .null, .int 0, .int 0])), (q1, .inl (k 0, 20, .inl (fun _ => 0))), (q2, .inl (k 0, 20, .inl (fun _ => 0))), (q3, .inl (k 0, 20, .inl (fun _ => 0))), (q4, .inl (k 0, 20, .inl (fun _ => 0))), (q5, .inl (k 0, 20, .inl (fun _ => 0))), (q6, .inl (k 0, 20, .inl (fun _ => 0))), (q7, .inl (k 0, 240, .inl (fun _ => 0)))] H := hP
    have hD : va_D (va_A [(h0, .inr (4, [.null, .null, .null, .null, .null, .null, .null, .null, .null, .int 0, .int 0]))] ss.heap.size) [(h0, .inr (4, [.ref q1, .ref q2, .ref q3, .ref q4, .ref q5, .ref q6, .null, .null, .null, .int 0, .int 0])), (q1, .inl (k 0, 20, .inl (fun _ => 0))), (q2, .inl (k 0, 20, .inl (fun _ => 0))), (q3, .inl (k 0, 20, .inl (fun _ => 0))), (q4, .inl (k 0, 20, .inl (fun _ => 0))), (q5, .inl (k 0, 20, .inl (fun _ => 0))), (q6, .inl (k 0, 20, .inl (fun _ => 0))), (q7, .inl (k 0, 240, .inl (fun _ => 0)))] := hD
    refine W.widen (k := 7) (n := 360) (Nat.le_of_ble_eq_true rfl) (Nat.le_of_ble_eq_true rfl) ?_
    refine va_putF (D := D) (ci := 4) (v := .ref q7) (ty := .array .int) (C := RX4) (T := TX4) (N := 11) hx hb hts iX4 tyX4 tyX4_ok nmX4 hown hK hP hD hS 0 rfl rfl 6 (by decide) w11 (fun _ h9 => h9) rfl hin rfl (by decide +kernel) rfl rfl (Nat.le_of_ble_eq_true rfl) dX4_init_58 (fun H locs hP hD hS => ?_)
    have hP : va_P D vwCl [(h0, .inr (4, [.ref q1, .ref q2, .ref q3, .ref q4, .ref q5, .ref q6, .ref q7, .null, .null, .int 0, .int 0])), (q1, .inl (k 0, 20, .inl (fun _ => 0))), (q2, .inl (k 0, 20, .inl (fun _ => 0))), (q3, .inl (k 0, 20, .inl (fun _ => 0))), (q4, .inl (k 0, 20, .inl (fun _ => 0))), (q5, .inl (k 0, 20, .inl (fun _ => 0))), (q6, .inl (k 0, 20, .inl (fun _ => 0))), (q7, .inl (k 0, 240, .inl (fun _ => 0)))] H := hP
    have hD : va_D (va_A [(h0, .inr (4, [.null, .null, .null, .null, .null, .null, .null, .null, .null, .int 0, .int 0]))] ss.heap.size) [(h0, .inr (4, [.ref q1, .ref q2, .ref q3, .ref q4, .ref q5, .ref q6, .ref q7, .null, .null, .int 0, .int 0])), (q1, .inl (k 0, 20, .inl (fun _ => 0))), (q2, .inl (k 0, 20, .inl (fun _ => 0))), (q3, .inl (k 0, 20, .inl (fun _ => 0))), (q4, .inl (k 0, 20, .inl (fun _ => 0))), (q5, .inl (k 0, 20, .inl (fun _ => 0))), (q6, .inl (k 0, 20, .inl (fun _ => 0))), (q7, .inl (k 0, 240, .inl (fun _ => 0)))] := hD
    refine lv_aload_n hx hb dX4_init_61 rfl (lv_at hl 0 rfl) ?_
    refine lv_bipush (v := 96) hx hb dX4_init_62 (by decide) ?_
    refine nwI hx hb w4 hK hP hD hS hA 96 (by decide) rfl (by decide) (Nat.le_of_ble_eq_true rfl) (Nat.le_of_ble_eq_true rfl) dX4_init_64 (fun q8 H hP hD hS => ?_)
    have hP : va_P D vwCl [(h0, .inr (4, [.ref q1, .ref q2, .ref q3, .ref q4, .ref q5, .ref q6, .ref q7, .null, .null, .int 0, .int 0])), (q1, .inl (k 0, 20, .inl (fun _ => 0))), (q2, .inl (k 0, 20, .inl (fun _ => 0))), (q3, .inl (k 0, 20, .inl (fun _ => 0))), (q4, .inl (k 0, 20, .inl (fun _ => 0))), (q5, .inl (k 0, 20, .inl (fun _ => 0))), (q6, .inl (k 0, 20, .inl (fun _ => 0))), (q7, .inl (k 0, 240, .inl (fun _ => 0))), (q8, .inl (k 0, 96, .inl (fun _ => 0)))] H := hP
    have hD : va_D (va_A [(h0, .inr (4, [.null, .null, .null, .null, .null, .null, .null, .null, .null, .int 0, .int 0]))] ss.heap.size) [(h0, .inr (4, [.ref q1, .ref q2, .ref q3, .ref q4, .ref q5, .ref q6, .ref q7, .null, .null, .int 0, .int 0])), (q1, .inl (k 0, 20, .inl (fun _ => 0))), (q2, .inl (k 0, 20, .inl (fun _ => 0))), (q3, .inl (k 0, 20, .inl (fun _ => 0))), (q4, .inl (k 0, 20, .inl (fun _ => 0))), (q5, .inl (k 0, 20, .inl (fun _ => 0))), (q6, .inl (k 0, 20, .inl (fun _ => 0))), (q7, .inl (k 0, 240, .inl (fun _ => 0))), (q8, .inl (k 0, 96, .inl (fun _ => 0)))] := hD
    refine W.widen (k := 8) (n := 456) (Nat.le_of_ble_eq_true rfl) (Nat.le_of_ble_eq_true rfl) ?_
    refine va_putF (D := D) (ci := 4) (v := .ref q8) (ty := .array .int) (C := RX4) (T := TX4) (N := 11) hx hb hts iX4 tyX4 tyX4_ok nmX4 hown hK hP hD hS 0 rfl rfl 7 (by decide) w12 (fun _ h9 => h9) rfl hin rfl (by decide +kernel) rfl rfl (Nat.le_of_ble_eq_true rfl) dX4_init_66 (fun H locs hP hD hS => ?_)
    have hP : va_P D vwCl [(h0, .inr (4, [.ref q1, .ref q2, .ref q3, .ref q4, .ref q5, .ref q6, .ref q7, .ref q8, .null, .int 0, .int 0])), (q1, .inl (k 0, 20, .inl (fun _ => 0))), (q2, .inl (k 0, 20, .inl (fun _ => 0))), (q3, .inl (k 0, 20, .inl (fun _ => 0))), (q4, .inl (k 0, 20, .inl (fun _ => 0))), (q5, .inl (k 0, 20, .inl (fun _ => 0))), (q6, .inl (k 0, 20, .inl (fun _ => 0))), (q7, .inl (k 0, 240, .inl (fun _ => 0))), (q8, .inl (k 0, 96, .inl (fun _ => 0)))] H := hP
    have hD : va_D (va_A [(h0, .inr (4, [.null, .null, .null, .null, .null, .null, .null, .null, .null, .int 0, .int 0]))] ss.heap.size) [(h0, .inr (4, [.ref q1, .ref q2, .ref q3, .ref q4, .ref q5, .ref q6, .ref q7, .ref q8, .null, .int 0, .int 0])), (q1, .inl (k 0, 20, .inl (fun _ => 0))), (q2, .inl (k 0, 20, .inl (fun _ => 0))), (q3, .inl (k 0, 20, .inl (fun _ => 0))), (q4, .inl (k 0, 20, .inl (fun _ => 0))), (q5, .inl (k 0, 20, .inl (fun _ => 0))), (q6, .inl (k 0, 20, .inl (fun _ => 0))), (q7, .inl (k 0, 240, .inl (fun _ => 0))), (q8, .inl (k 0, 96, .inl (fun _ => 0)))] := hD
    refine lv_aload_n hx hb dX4_init_69 rfl (lv_at hl 0 rfl) ?_
    refine lv_bipush (v := 96) hx hb dX4_init_70 (by decide) ?_
    refine nwI hx hb w4 hK hP hD hS hA 96 (by decide) rfl (by decide) (Nat.le_of_ble_eq_true rfl) (Nat.le_of_ble_eq_true rfl) dX4_init_72 (fun q9 H hP hD hS => ?_)
    have hP : va_P D vwCl [(h0, .inr (4, [.ref q1, .ref q2, .ref q3, .ref q4, .ref q5, .ref q6, .ref q7, .ref q8, .null, .int 0, .int 0])), (q1, .inl (k 0, 20, .inl (fun _ => 0))), (q2, .inl (k 0, 20, .inl (fun _ => 0))), (q3, .inl (k 0, 20, .inl (fun _ => 0))), (q4, .inl (k 0, 20, .inl (fun _ => 0))), (q5, .inl (k 0, 20, .inl (fun _ => 0))), (q6, .inl (k 0, 20, .inl (fun _ => 0))), (q7, .inl (k 0, 240, .inl (fun _ => 0))), (q8, .inl (k 0, 96, .inl (fun _ => 0))), (q9, .inl (k 0, 96, .inl (fun _ => 0)))] H := hP
    have hD : va_D (va_A [(h0, .inr (4, [.null, .null, .null, .null, .null, .null, .null, .null, .null, .int 0, .int 0]))] ss.heap.size) [(h0, .inr (4, [.ref q1, .ref q2, .ref q3, .ref q4, .ref q5, .ref q6, .ref q7, .ref q8, .null, .int 0, .int 0])), (q1, .inl (k 0, 20, .inl (fun _ => 0))), (q2, .inl (k 0, 20, .inl (fun _ => 0))), (q3, .inl (k 0, 20, .inl (fun _ => 0))), (q4, .inl (k 0, 20, .inl (fun _ => 0))), (q5, .inl (k 0, 20, .inl (fun _ => 0))), (q6, .inl (k 0, 20, .inl (fun _ => 0))), (q7, .inl (k 0, 240, .inl (fun _ => 0))), (q8, .inl (k 0, 96, .inl (fun _ => 0))), (q9, .inl (k 0, 96, .inl (fun _ => 0)))] := hD
    refine W.widen (k := 9) (n := 552) (Nat.le_of_ble_eq_true rfl) (Nat.le_of_ble_eq_true rfl) ?_
    refine va_putF (D := D) (ci := 4) (v := .ref q9) (ty := .array .int) (C := RX4) (T := TX4) (N := 11) hx hb hts iX4 tyX4 tyX4_ok nmX4 hown hK hP hD hS 0 rfl rfl 8 (by decide) w13 (fun _ h9 => h9) rfl hin rfl (by decide +kernel) rfl rfl (Nat.le_of_ble_eq_true rfl) dX4_init_74 (fun H locs hP hD hS => ?_)
    have hP : va_P D vwCl [(h0, .inr (4, [.ref q1, .ref q2, .ref q3, .ref q4, .ref q5, .ref q6, .ref q7, .ref q8, .ref q9, .int 0, .int 0])), (q1, .inl (k 0, 20, .inl (fun _ => 0))), (q2, .inl (k 0, 20, .inl (fun _ => 0))), (q3, .inl (k 0, 20, .inl (fun _ => 0))), (q4, .inl (k 0, 20, .inl (fun _ => 0))), (q5, .inl (k 0, 20, .inl (fun _ => 0))), (q6, .inl (k 0, 20, .inl (fun _ => 0))), (q7, .inl (k 0, 240, .inl (fun _ => 0))), (q8, .inl (k 0, 96, .inl (fun _ => 0))), (q9, .inl (k 0, 96, .inl (fun _ => 0)))] H := hP
    have hD : va_D (va_A [(h0, .inr (4, [.null, .null, .null, .null, .null, .null, .null, .null, .null, .int 0, .int 0]))] ss.heap.size) [(h0, .inr (4, [.ref q1, .ref q2, .ref q3, .ref q4, .ref q5, .ref q6, .ref q7, .ref q8, .ref q9, .int 0, .int 0])), (q1, .inl (k 0, 20, .inl (fun _ => 0))), (q2, .inl (k 0, 20, .inl (fun _ => 0))), (q3, .inl (k 0, 20, .inl (fun _ => 0))), (q4, .inl (k 0, 20, .inl (fun _ => 0))), (q5, .inl (k 0, 20, .inl (fun _ => 0))), (q6, .inl (k 0, 20, .inl (fun _ => 0))), (q7, .inl (k 0, 240, .inl (fun _ => 0))), (q8, .inl (k 0, 96, .inl (fun _ => 0))), (q9, .inl (k 0, 96, .inl (fun _ => 0)))] := hD
    refine lv_aload_n hx hb dX4_init_77 rfl (lv_at hl 0 rfl) ?_
    refine lv_iconst (v := 1) hx hb dX4_init_78 (by decide) ?_
    refine va_put (D := D) (ci := 4) (v := .int 1) (ty := .int) (C := RX4) (T := TX4) (N := 11) hx hb hts iX4 tyX4 tyX4_ok nmX4 hown hK hP hD hS 0 rfl rfl 9 (by decide) w14 (fun _ h9 => h9) rfl (by decide +kernel) rfl rfl (Nat.le_of_ble_eq_true rfl) dX4_init_79 (fun H locs hP hD hS => ?_)
    have hP : va_P D vwCl [(h0, .inr (4, [.ref q1, .ref q2, .ref q3, .ref q4, .ref q5, .ref q6, .ref q7, .ref q8, .ref q9, .int 1, .int 0])), (q1, .inl (k 0, 20, .inl (fun _ => 0))), (q2, .inl (k 0, 20, .inl (fun _ => 0))), (q3, .inl (k 0, 20, .inl (fun _ => 0))), (q4, .inl (k 0, 20, .inl (fun _ => 0))), (q5, .inl (k 0, 20, .inl (fun _ => 0))), (q6, .inl (k 0, 20, .inl (fun _ => 0))), (q7, .inl (k 0, 240, .inl (fun _ => 0))), (q8, .inl (k 0, 96, .inl (fun _ => 0))), (q9, .inl (k 0, 96, .inl (fun _ => 0)))] H := hP
    have hD : va_D (va_A [(h0, .inr (4, [.null, .null, .null, .null, .null, .null, .null, .null, .null, .int 0, .int 0]))] ss.heap.size) [(h0, .inr (4, [.ref q1, .ref q2, .ref q3, .ref q4, .ref q5, .ref q6, .ref q7, .ref q8, .ref q9, .int 1, .int 0])), (q1, .inl (k 0, 20, .inl (fun _ => 0))), (q2, .inl (k 0, 20, .inl (fun _ => 0))), (q3, .inl (k 0, 20, .inl (fun _ => 0))), (q4, .inl (k 0, 20, .inl (fun _ => 0))), (q5, .inl (k 0, 20, .inl (fun _ => 0))), (q6, .inl (k 0, 20, .inl (fun _ => 0))), (q7, .inl (k 0, 240, .inl (fun _ => 0))), (q8, .inl (k 0, 96, .inl (fun _ => 0))), (q9, .inl (k 0, 96, .inl (fun _ => 0)))] := hD
    refine lv_aload_n hx hb dX4_init_82 rfl (lv_at hl 0 rfl) ?_
    refine lv_iconst (v := 0) hx hb dX4_init_83 (by decide) ?_
    refine va_put (D := D) (ci := 4) (v := .int 0) (ty := .int) (C := RX4) (T := TX4) (N := 11) hx hb hts iX4 tyX4 tyX4_ok nmX4 hown hK hP hD hS 0 rfl rfl 10 (by decide) w15 (fun _ h9 => h9) rfl (by decide +kernel) rfl rfl (Nat.le_of_ble_eq_true rfl) dX4_init_84 (fun H locs hP hD hS => ?_)
    have hP : va_P D vwCl [(h0, .inr (4, [.ref q1, .ref q2, .ref q3, .ref q4, .ref q5, .ref q6, .ref q7, .ref q8, .ref q9, .int 1, .int 0])), (q1, .inl (k 0, 20, .inl (fun _ => 0))), (q2, .inl (k 0, 20, .inl (fun _ => 0))), (q3, .inl (k 0, 20, .inl (fun _ => 0))), (q4, .inl (k 0, 20, .inl (fun _ => 0))), (q5, .inl (k 0, 20, .inl (fun _ => 0))), (q6, .inl (k 0, 20, .inl (fun _ => 0))), (q7, .inl (k 0, 240, .inl (fun _ => 0))), (q8, .inl (k 0, 96, .inl (fun _ => 0))), (q9, .inl (k 0, 96, .inl (fun _ => 0)))] H := hP
    have hD : va_D (va_A [(h0, .inr (4, [.null, .null, .null, .null, .null, .null, .null, .null, .null, .int 0, .int 0]))] ss.heap.size) [(h0, .inr (4, [.ref q1, .ref q2, .ref q3, .ref q4, .ref q5, .ref q6, .ref q7, .ref q8, .ref q9, .int 1, .int 0])), (q1, .inl (k 0, 20, .inl (fun _ => 0))), (q2, .inl (k 0, 20, .inl (fun _ => 0))), (q3, .inl (k 0, 20, .inl (fun _ => 0))), (q4, .inl (k 0, 20, .inl (fun _ => 0))), (q5, .inl (k 0, 20, .inl (fun _ => 0))), (q6, .inl (k 0, 20, .inl (fun _ => 0))), (q7, .inl (k 0, 240, .inl (fun _ => 0))), (q8, .inl (k 0, 96, .inl (fun _ => 0))), (q9, .inl (k 0, 96, .inl (fun _ => 0)))] := hD
    have hP : va_P D vwCl (wPool k (fun j => [h0, q1, q2, q3, q4, q5, q6, q7, q8, q9].getD j 0) P00) H := hP
    have hD : va_D (va_A [(h0, .inr (4, [.null, .null, .null, .null, .null, .null, .null, .null, .null, .int 0, .int 0]))] ss.heap.size) (wPool k (fun j => [h0, q1, q2, q3, q4, q5, q6, q7, q8, q9].getD j 0) P00) := hD
    have hl : lv_has ls 2 [(0, .ref ((fun j => [h0, q1, q2, q3, q4, q5, q6, q7, q8, q9].getD j 0) 0))] := hl
    have ea : (fun j => [h0, q1, q2, q3, q4, q5, q6, q7, q8, q9].getD j 0) 0 = h0 := rfl
    generalize (fun j => [h0, q1, q2, q3, q4, q5, q6, q7, q8, q9].getD j 0) = aa at hP hD hl ea
    exact tX4 hx hb hown hts hK hP hD hS hl (fun P H locs ls hI hP hD hS => cRk hx hb hr hlk hK (aa, P) ⟨ea, hI⟩ hP hD hS dX4_init_151)
  exact key ss.heap [] rfl rfl hP hS
set_option maxRecDepth 100000 in
set_option maxHeartbeats 4000000 in
theorem ctX8 (l : Launch) (D : va_G) (k : Nat → ClassId) (h0 : Nat) : CtK l D k yX8_init wsX8_init ({ frames := 1, cells := 9, slots := 2042, locals := 12 } : Room) [.ref h0] [(h0, .inr (8, [.int 0, .null, .null, .null, .int 0, .null, .null, .int 0, .null, .null, .null, .null, .int 0]))] (S := (Nat → Nat) × RSt × RSt) (fun u => wModel k u.1 u.2.1 (fun _ => 0) (fun _ => 0) (fun _ => 0) (fun _ => 0) (fun _ => 0) u.2.2 (fun _ => 0) (fun _ => 0) 0 0 0 0) (fun u => u.1 0 = h0 ∧ IniS u.2.1 u.2.2) 9 2042 := by
  intro sz9
  refine cStK (lv := [(0, .ref h0)]) (own := RX8) (cc := cX8_init) (nL := 2) (by decide +kernel) rfl rfl rfl (Nat.le_of_ble_eq_true rfl) rfl ?_
  intro pp ee ss mm bl me co hsz hC0 hP hD hS ls hl
  subst hsz
  obtain ⟨hx, hb, hr, hml, hown, hts, hK, hlk, hin, hO⟩ := hC0
  have hA : ∀ q, ss.heap.size ≤ q → va_A [(h0, .inr (8, [.int 0, .null, .null, .null, .int 0, .null, .null, .int 0, .null, .null, .null, .null, .int 0]))] ss.heap.size q := fun q h => Or.inr h
  have w1 := hts (.methodLink RX8 1 objectInit) (List.mem_of_getElem? (i := 1) rfl)
  have w2 := hts (.instanceMethod objectInit) (List.mem_of_getElem? (i := 2) rfl)
  have w3 := hts (.code objectInit ⟨#[0xb1]⟩ 1 none) (List.mem_of_getElem? (i := 3) rfl)
  have w4 := hts (.arrayClass .int) (List.mem_of_getElem? (i := 4) rfl)
  have iX8 : ∀ w ∈ wsX80, w ∈ wsX8_init := fun _ h => List.mem_cons_of_mem _ (List.mem_append_right _ h)
  have w5 := hts (.fieldLink RX8 7 "DeadListPoolModel" "s" "[I") (List.mem_of_getElem? (i := 5) rfl)
  have w6 := hts (.fieldLink RX8 13 "DeadListPoolModel" "image" "[I") (List.mem_of_getElem? (i := 6) rfl)
  have w7 := hts (.fieldLink RX8 16 "DeadListPoolModel" "frame" "[I") (List.mem_of_getElem? (i := 7) rfl)
  have w8 := hts (.fieldLink RX8 19 "DeadListPoolModel" "holds" "[I") (List.mem_of_getElem? (i := 8) rfl)
  have w9 := hts (.fieldLink RX8 22 "DeadListPoolModel" "newest" "[I") (List.mem_of_getElem? (i := 9) rfl)
  have w10 := hts (.fieldLink RX8 25 "DeadListPoolModel" "holders" "[I") (List.mem_of_getElem? (i := 10) rfl)
  have w11 := hts (.fieldLink RX8 28 "DeadListPoolModel" "sorts" "[I") (List.mem_of_getElem? (i := 11) rfl)
  have w12 := hts (.fieldLink RX8 31 "DeadListPoolModel" "sizes" "[I") (List.mem_of_getElem? (i := 12) rfl)
  have w13 := hts (.arrayClass .long) (List.mem_of_getElem? (i := 13) rfl)
  have w14 := hts (.fieldLink RX8 34 "DeadListPoolModel" "items" "[J") (List.mem_of_getElem? (i := 14) rfl)
  have key : ∀ (H : Heap) (locs : List Loc), H = ss.heap → locs = [] → va_P D vwCl [(h0, .inr (8, [.int 0, .null, .null, .null, .int 0, .null, .null, .int 0, .null, .null, .null, .null, .int 0]))] H → va_S (va_A [(h0, .inr (8, [.int 0, .null, .null, .null, .int 0, .null, .null, .int 0, .null, .null, .null, .null, .int 0]))] ss.heap.size) ss.heap H locs → W pp l ee ({ frames := 1, cells := 9, slots := 2042, locals := 12 } : Room) ss mm ([.ref h0] : List Value).toArray bl me co H locs 0 0 (MQ bl (va_Qv (fun u : (Nat → Nat) × RSt × RSt => u.1 0 = h0 ∧ IniS u.2.1 u.2.2) (kB D k (fun u : (Nat → Nat) × RSt × RSt => wModel k u.1 u.2.1 (fun _ => 0) (fun _ => 0) (fun _ => 0) (fun _ => 0) (fun _ => 0) u.2.2 (fun _ => 0) (fun _ => 0) 0 0 0 0) [(h0, .inr (8, [.int 0, .null, .null, .null, .int 0, .null, .null, .int 0, .null, .null, .null, .null, .int 0]))] ss.heap.size) (va_A [(h0, .inr (8, [.int 0, .null, .null, .null, .int 0, .null, .null, .int 0, .null, .null, .null, .null, .int 0]))] ss.heap.size)) ([.ref h0] : List Value).toArray ss 9 2042 (va_A [(h0, .inr (8, [.int 0, .null, .null, .null, .int 0, .null, .null, .int 0, .null, .null, .null, .null, .int 0]))] ss.heap.size)) (F0 mm 0 ls []) := by
    intro H locs _ _ hP hS
    refine lv_aload_n hx hb dX8_init_0 rfl (lv_at hl 0 rfl) ?_
    refine W.objInit hx hb hown w1 w2 w3 rfl (by rw [hml]; exact hl.1) rfl dX8_init_1 (Nat.le_of_ble_eq_true rfl) (Nat.le_of_ble_eq_true rfl) ?_
    refine W.eq (g2 := F0 mm 4 ls []) rfl ?_
    refine lv_aload_n hx hb dX8_init_4 rfl (lv_at hl 0 rfl) ?_
    refine lv_sipush (v := 554) hx hb dX8_init_5 (by decide) ?_
    refine nwI hx hb w4 hK hP hD hS hA 554 (by decide) rfl (by decide) (Nat.le_of_ble_eq_true rfl) (Nat.le_of_ble_eq_true rfl) dX8_init_8 (fun q1 H hP hD hS => ?_)
    have hP : va_P D vwCl [(h0, .inr (8, [.int 0, .null, .null, .null, .int 0, .null, .null, .int 0, .null, .null, .null, .null, .int 0])), (q1, .inl (k 0, 554, .inl (fun _ => 0)))] H := hP
    have hD : va_D (va_A [(h0, .inr (8, [.int 0, .null, .null, .null, .int 0, .null, .null, .int 0, .null, .null, .null, .null, .int 0]))] ss.heap.size) [(h0, .inr (8, [.int 0, .null, .null, .null, .int 0, .null, .null, .int 0, .null, .null, .null, .null, .int 0])), (q1, .inl (k 0, 554, .inl (fun _ => 0)))] := hD
    refine W.widen (k := 1) (n := 554) (Nat.le_of_ble_eq_true rfl) (Nat.le_of_ble_eq_true rfl) ?_
    refine va_putF (D := D) (ci := 8) (v := .ref q1) (ty := .array .int) (C := RX8) (T := TX8) (N := 13) hx hb hts iX8 tyX8 tyX8_ok nmX8 hown hK hP hD hS 0 rfl rfl 1 (by decide) w5 (fun _ h9 => h9) rfl hin rfl (by decide +kernel) rfl rfl (Nat.le_of_ble_eq_true rfl) dX8_init_10 (fun H locs hP hD hS => ?_)
    have hP : va_P D vwCl [(h0, .inr (8, [.int 0, .ref q1, .null, .null, .int 0, .null, .null, .int 0, .null, .null, .null, .null, .int 0])), (q1, .inl (k 0, 554, .inl (fun _ => 0)))] H := hP
    have hD : va_D (va_A [(h0, .inr (8, [.int 0, .null, .null, .null, .int 0, .null, .null, .int 0, .null, .null, .null, .null, .int 0]))] ss.heap.size) [(h0, .inr (8, [.int 0, .ref q1, .null, .null, .int 0, .null, .null, .int 0, .null, .null, .null, .null, .int 0])), (q1, .inl (k 0, 554, .inl (fun _ => 0)))] := hD
    refine lv_aload_n hx hb dX8_init_13 rfl (lv_at hl 0 rfl) ?_
    refine lv_sipush (v := 554) hx hb dX8_init_14 (by decide) ?_
    refine nwI hx hb w4 hK hP hD hS hA 554 (by decide) rfl (by decide) (Nat.le_of_ble_eq_true rfl) (Nat.le_of_ble_eq_true rfl) dX8_init_17 (fun q2 H hP hD hS => ?_)
    have hP : va_P D vwCl [(h0, .inr (8, [.int 0, .ref q1, .null, .null, .int 0, .null, .null, .int 0, .null, .null, .null, .null, .int 0])), (q1, .inl (k 0, 554, .inl (fun _ => 0))), (q2, .inl (k 0, 554, .inl (fun _ => 0)))] H := hP
    have hD : va_D (va_A [(h0, .inr (8, [.int 0, .null, .null, .null, .int 0, .null, .null, .int 0, .null, .null, .null, .null, .int 0]))] ss.heap.size) [(h0, .inr (8, [.int 0, .ref q1, .null, .null, .int 0, .null, .null, .int 0, .null, .null, .null, .null, .int 0])), (q1, .inl (k 0, 554, .inl (fun _ => 0))), (q2, .inl (k 0, 554, .inl (fun _ => 0)))] := hD
    refine W.widen (k := 2) (n := 1108) (Nat.le_of_ble_eq_true rfl) (Nat.le_of_ble_eq_true rfl) ?_
    refine va_putF (D := D) (ci := 8) (v := .ref q2) (ty := .array .int) (C := RX8) (T := TX8) (N := 13) hx hb hts iX8 tyX8 tyX8_ok nmX8 hown hK hP hD hS 0 rfl rfl 2 (by decide) w6 (fun _ h9 => h9) rfl hin rfl (by decide +kernel) rfl rfl (Nat.le_of_ble_eq_true rfl) dX8_init_19 (fun H locs hP hD hS => ?_)
    have hP : va_P D vwCl [(h0, .inr (8, [.int 0, .ref q1, .ref q2, .null, .int 0, .null, .null, .int 0, .null, .null, .null, .null, .int 0])), (q1, .inl (k 0, 554, .inl (fun _ => 0))), (q2, .inl (k 0, 554, .inl (fun _ => 0)))] H := hP
    have hD : va_D (va_A [(h0, .inr (8, [.int 0, .null, .null, .null, .int 0, .null, .null, .int 0, .null, .null, .null, .null, .int 0]))] ss.heap.size) [(h0, .inr (8, [.int 0, .ref q1, .ref q2, .null, .int 0, .null, .null, .int 0, .null, .null, .null, .null, .int 0])), (q1, .inl (k 0, 554, .inl (fun _ => 0))), (q2, .inl (k 0, 554, .inl (fun _ => 0)))] := hD
    refine lv_aload_n hx hb dX8_init_22 rfl (lv_at hl 0 rfl) ?_
    refine lv_sipush (v := 554) hx hb dX8_init_23 (by decide) ?_
    refine nwI hx hb w4 hK hP hD hS hA 554 (by decide) rfl (by decide) (Nat.le_of_ble_eq_true rfl) (Nat.le_of_ble_eq_true rfl) dX8_init_26 (fun q3 H hP hD hS => ?_)
    have hP : va_P D vwCl [(h0, .inr (8, [.int 0, .ref q1, .ref q2, .null, .int 0, .null, .null, .int 0, .null, .null, .null, .null, .int 0])), (q1, .inl (k 0, 554, .inl (fun _ => 0))), (q2, .inl (k 0, 554, .inl (fun _ => 0))), (q3, .inl (k 0, 554, .inl (fun _ => 0)))] H := hP
    have hD : va_D (va_A [(h0, .inr (8, [.int 0, .null, .null, .null, .int 0, .null, .null, .int 0, .null, .null, .null, .null, .int 0]))] ss.heap.size) [(h0, .inr (8, [.int 0, .ref q1, .ref q2, .null, .int 0, .null, .null, .int 0, .null, .null, .null, .null, .int 0])), (q1, .inl (k 0, 554, .inl (fun _ => 0))), (q2, .inl (k 0, 554, .inl (fun _ => 0))), (q3, .inl (k 0, 554, .inl (fun _ => 0)))] := hD
    refine W.widen (k := 3) (n := 1662) (Nat.le_of_ble_eq_true rfl) (Nat.le_of_ble_eq_true rfl) ?_
    refine va_putF (D := D) (ci := 8) (v := .ref q3) (ty := .array .int) (C := RX8) (T := TX8) (N := 13) hx hb hts iX8 tyX8 tyX8_ok nmX8 hown hK hP hD hS 0 rfl rfl 3 (by decide) w7 (fun _ h9 => h9) rfl hin rfl (by decide +kernel) rfl rfl (Nat.le_of_ble_eq_true rfl) dX8_init_28 (fun H locs hP hD hS => ?_)
    have hP : va_P D vwCl [(h0, .inr (8, [.int 0, .ref q1, .ref q2, .ref q3, .int 0, .null, .null, .int 0, .null, .null, .null, .null, .int 0])), (q1, .inl (k 0, 554, .inl (fun _ => 0))), (q2, .inl (k 0, 554, .inl (fun _ => 0))), (q3, .inl (k 0, 554, .inl (fun _ => 0)))] H := hP
    have hD : va_D (va_A [(h0, .inr (8, [.int 0, .null, .null, .null, .int 0, .null, .null, .int 0, .null, .null, .null, .null, .int 0]))] ss.heap.size) [(h0, .inr (8, [.int 0, .ref q1, .ref q2, .ref q3, .int 0, .null, .null, .int 0, .null, .null, .null, .null, .int 0])), (q1, .inl (k 0, 554, .inl (fun _ => 0))), (q2, .inl (k 0, 554, .inl (fun _ => 0))), (q3, .inl (k 0, 554, .inl (fun _ => 0)))] := hD
    refine lv_aload_n hx hb dX8_init_31 rfl (lv_at hl 0 rfl) ?_
    refine lv_bipush (v := 96) hx hb dX8_init_32 (by decide) ?_
    refine nwI hx hb w4 hK hP hD hS hA 96 (by decide) rfl (by decide) (Nat.le_of_ble_eq_true rfl) (Nat.le_of_ble_eq_true rfl) dX8_init_34 (fun q4 H hP hD hS => ?_)
    have hP : va_P D vwCl [(h0, .inr (8, [.int 0, .ref q1, .ref q2, .ref q3, .int 0, .null, .null, .int 0, .null, .null, .null, .null, .int 0])), (q1, .inl (k 0, 554, .inl (fun _ => 0))), (q2, .inl (k 0, 554, .inl (fun _ => 0))), (q3, .inl (k 0, 554, .inl (fun _ => 0))), (q4, .inl (k 0, 96, .inl (fun _ => 0)))] H := hP
    have hD : va_D (va_A [(h0, .inr (8, [.int 0, .null, .null, .null, .int 0, .null, .null, .int 0, .null, .null, .null, .null, .int 0]))] ss.heap.size) [(h0, .inr (8, [.int 0, .ref q1, .ref q2, .ref q3, .int 0, .null, .null, .int 0, .null, .null, .null, .null, .int 0])), (q1, .inl (k 0, 554, .inl (fun _ => 0))), (q2, .inl (k 0, 554, .inl (fun _ => 0))), (q3, .inl (k 0, 554, .inl (fun _ => 0))), (q4, .inl (k 0, 96, .inl (fun _ => 0)))] := hD
    refine W.widen (k := 4) (n := 1758) (Nat.le_of_ble_eq_true rfl) (Nat.le_of_ble_eq_true rfl) ?_
    refine va_putF (D := D) (ci := 8) (v := .ref q4) (ty := .array .int) (C := RX8) (T := TX8) (N := 13) hx hb hts iX8 tyX8 tyX8_ok nmX8 hown hK hP hD hS 0 rfl rfl 5 (by decide) w8 (fun _ h9 => h9) rfl hin rfl (by decide +kernel) rfl rfl (Nat.le_of_ble_eq_true rfl) dX8_init_36 (fun H locs hP hD hS => ?_)
    have hP : va_P D vwCl [(h0, .inr (8, [.int 0, .ref q1, .ref q2, .ref q3, .int 0, .ref q4, .null, .int 0, .null, .null, .null, .null, .int 0])), (q1, .inl (k 0, 554, .inl (fun _ => 0))), (q2, .inl (k 0, 554, .inl (fun _ => 0))), (q3, .inl (k 0, 554, .inl (fun _ => 0))), (q4, .inl (k 0, 96, .inl (fun _ => 0)))] H := hP
    have hD : va_D (va_A [(h0, .inr (8, [.int 0, .null, .null, .null, .int 0, .null, .null, .int 0, .null, .null, .null, .null, .int 0]))] ss.heap.size) [(h0, .inr (8, [.int 0, .ref q1, .ref q2, .ref q3, .int 0, .ref q4, .null, .int 0, .null, .null, .null, .null, .int 0])), (q1, .inl (k 0, 554, .inl (fun _ => 0))), (q2, .inl (k 0, 554, .inl (fun _ => 0))), (q3, .inl (k 0, 554, .inl (fun _ => 0))), (q4, .inl (k 0, 96, .inl (fun _ => 0)))] := hD
    refine lv_aload_n hx hb dX8_init_39 rfl (lv_at hl 0 rfl) ?_
    refine lv_bipush (v := 20) hx hb dX8_init_40 (by decide) ?_
    refine nwI hx hb w4 hK hP hD hS hA 20 (by decide) rfl (by decide) (Nat.le_of_ble_eq_true rfl) (Nat.le_of_ble_eq_true rfl) dX8_init_42 (fun q5 H hP hD hS => ?_)
    have hP : va_P D vwCl [(h0, .inr (8, [.int 0, .ref q1, .ref q2, .ref q3, .int 0, .ref q4, .null, .int 0, .null, .null, .null, .null, .int 0])), (q1, .inl (k 0, 554, .inl (fun _ => 0))), (q2, .inl (k 0, 554, .inl (fun _ => 0))), (q3, .inl (k 0, 554, .inl (fun _ => 0))), (q4, .inl (k 0, 96, .inl (fun _ => 0))), (q5, .inl (k 0, 20, .inl (fun _ => 0)))] H := hP
    have hD : va_D (va_A [(h0, .inr (8, [.int 0, .null, .null, .null, .int 0, .null, .null, .int 0, .null, .null, .null, .null, .int 0]))] ss.heap.size) [(h0, .inr (8, [.int 0, .ref q1, .ref q2, .ref q3, .int 0, .ref q4, .null, .int 0, .null, .null, .null, .null, .int 0])), (q1, .inl (k 0, 554, .inl (fun _ => 0))), (q2, .inl (k 0, 554, .inl (fun _ => 0))), (q3, .inl (k 0, 554, .inl (fun _ => 0))), (q4, .inl (k 0, 96, .inl (fun _ => 0))), (q5, .inl (k 0, 20, .inl (fun _ => 0)))] := hD
    refine W.widen (k := 5) (n := 1778) (Nat.le_of_ble_eq_true rfl) (Nat.le_of_ble_eq_true rfl) ?_
    refine va_putF (D := D) (ci := 8) (v := .ref q5) (ty := .array .int) (C := RX8) (T := TX8) (N := 13) hx hb hts iX8 tyX8 tyX8_ok nmX8 hown hK hP hD hS 0 rfl rfl 6 (by decide) w9 (fun _ h9 => h9) rfl hin rfl (by decide +kernel) rfl rfl (Nat.le_of_ble_eq_true rfl) dX8_init_44 (fun H locs hP hD hS => ?_)
    have hP : va_P D vwCl [(h0, .inr (8, [.int 0, .ref q1, .ref q2, .ref q3, .int 0, .ref q4, .ref q5, .int 0, .null, .null, .null, .null, .int 0])), (q1, .inl (k 0, 554, .inl (fun _ => 0))), (q2, .inl (k 0, 554, .inl (fun _ => 0))), (q3, .inl (k 0, 554, .inl (fun _ => 0))), (q4, .inl (k 0, 96, .inl (fun _ => 0))), (q5, .inl (k 0, 20, .inl (fun _ => 0)))] H := hP
    have hD : va_D (va_A [(h0, .inr (8, [.int 0, .null, .null, .null, .int 0, .null, .null, .int 0, .null, .null, .null, .null, .int 0]))] ss.heap.size) [(h0, .inr (8, [.int 0, .ref q1, .ref q2, .ref q3, .int 0, .ref q4, .ref q5, .int 0, .null, .null, .null, .null, .int 0])), (q1, .inl (k 0, 554, .inl (fun _ => 0))), (q2, .inl (k 0, 554, .inl (fun _ => 0))), (q3, .inl (k 0, 554, .inl (fun _ => 0))), (q4, .inl (k 0, 96, .inl (fun _ => 0))), (q5, .inl (k 0, 20, .inl (fun _ => 0)))] := hD
    refine lv_aload_n hx hb dX8_init_47 rfl (lv_at hl 0 rfl) ?_
    refine lv_bipush (v := 96) hx hb dX8_init_48 (by decide) ?_
    refine nwI hx hb w4 hK hP hD hS hA 96 (by decide) rfl (by decide) (Nat.le_of_ble_eq_true rfl) (Nat.le_of_ble_eq_true rfl) dX8_init_50 (fun q6 H hP hD hS => ?_)
    have hP : va_P D vwCl [(h0, .inr (8, [.int 0, .ref q1, .ref q2, .ref q3, .int 0, .ref q4, .ref q5, .int 0, .null, .null, .null, .null, .int 0])), (q1, .inl (k 0, 554, .inl (fun _ => 0))), (q2, .inl (k 0, 554, .inl (fun _ => 0))), (q3, .inl (k 0, 554, .inl (fun _ => 0))), (q4, .inl (k 0, 96, .inl (fun _ => 0))), (q5, .inl (k 0, 20, .inl (fun _ => 0))), (q6, .inl (k 0, 96, .inl (fun _ => 0)))] H := hP
    have hD : va_D (va_A [(h0, .inr (8, [.int 0, .null, .null, .null, .int 0, .null, .null, .int 0, .null, .null, .null, .null, .int 0]))] ss.heap.size) [(h0, .inr (8, [.int 0, .ref q1, .ref q2, .ref q3, .int 0, .ref q4, .ref q5, .int 0, .null, .null, .null, .null, .int 0])), (q1, .inl (k 0, 554, .inl (fun _ => 0))), (q2, .inl (k 0, 554, .inl (fun _ => 0))), (q3, .inl (k 0, 554, .inl (fun _ => 0))), (q4, .inl (k 0, 96, .inl (fun _ => 0))), (q5, .inl (k 0, 20, .inl (fun _ => 0))), (q6, .inl (k 0, 96, .inl (fun _ => 0)))] := hD
    refine W.widen (k := 6) (n := 1874) (Nat.le_of_ble_eq_true rfl) (Nat.le_of_ble_eq_true rfl) ?_
    refine va_putF (D := D) (ci := 8) (v := .ref q6) (ty := .array .int) (C := RX8) (T := TX8) (N := 13) hx hb hts iX8 tyX8 tyX8_ok nmX8 hown hK hP hD hS 0 rfl rfl 8 (by decide) w10 (fun _ h9 => h9) rfl hin rfl (by decide +kernel) rfl rfl (Nat.le_of_ble_eq_true rfl) dX8_init_52 (fun H locs hP hD hS => ?_)
    have hP : va_P D vwCl [(h0, .inr (8, [.int 0, .ref q1, .ref q2, .ref q3, .int 0, .ref q4, .ref q5, .int 0, .ref q6, .null, .null, .null, .int 0])), (q1, .inl (k 0, 554, .inl (fun _ => 0))), (q2, .inl (k 0, 554, .inl (fun _ => 0))), (q3, .inl (k 0, 554, .inl (fun _ => 0))), (q4, .inl (k 0, 96, .inl (fun _ => 0))), (q5, .inl (k 0, 20, .inl (fun _ => 0))), (q6, .inl (k 0, 96, .inl (fun _ => 0)))] H := hP
    have hD : va_D (va_A [(h0, .inr (8, [.int 0, .null, .null, .null, .int 0, .null, .null, .int 0, .null, .null, .null, .null, .int 0]))] ss.heap.size) [(h0, .inr (8, [.int 0, .ref q1, .ref q2, .ref q3, .int 0, .ref q4, .ref q5, .int 0, .ref q6, .null, .null, .null, .int 0])), (q1, .inl (k 0, 554, .inl (fun _ => 0))), (q2, .inl (k 0, 554, .inl (fun _ => 0))), (q3, .inl (k 0, 554, .inl (fun _ => 0))), (q4, .inl (k 0, 96, .inl (fun _ => 0))), (q5, .inl (k 0, 20, .inl (fun _ => 0))), (q6, .inl (k 0, 96, .inl (fun _ => 0)))] := hD
    refine lv_aload_n hx hb dX8_init_55 rfl (lv_at hl 0 rfl) ?_
    refine lv_iconst (v := 4) hx hb dX8_init_56 (by decide) ?_
    refine nwI hx hb w4 hK hP hD hS hA 4 (by decide) rfl (by decide) (Nat.le_of_ble_eq_true rfl) (Nat.le_of_ble_eq_true rfl) dX8_init_57 (fun q7 H hP hD hS => ?_)
    have hP : va_P D vwCl [(h0, .inr (8, [.int 0, .ref q1, .ref q2, .ref q3, .int 0, .ref q4, .ref q5, .int 0, .ref q6, .null, .null, .null, .int 0])), (q1, .inl (k 0, 554, .inl (fun _ => 0))), (q2, .inl (k 0, 554, .inl (fun _ => 0))), (q3, .inl (k 0, 554, .inl (fun _ => 0))), (q4, .inl (k 0, 96, .inl (fun _ => 0))), (q5, .inl (k 0, 20, .inl (fun _ => 0))), (q6, .inl (k 0, 96, .inl (fun _ => 0))), (q7, .inl (k 0, 4, .inl (fun _ => 0)))] H := hP
    have hD : va_D (va_A [(h0, .inr (8, [.int 0, .null, .null, .null, .int 0, .null, .null, .int 0, .null, .null, .null, .null, .int 0]))] ss.heap.size) [(h0, .inr (8, [.int 0, .ref q1, .ref q2, .ref q3, .int 0, .ref q4, .ref q5, .int 0, .ref q6, .null, .null, .null, .int 0])), (q1, .inl (k 0, 554, .inl (fun _ => 0))), (q2, .inl (k 0, 554, .inl (fun _ => 0))), (q3, .inl (k 0, 554, .inl (fun _ => 0))), (q4, .inl (k 0, 96, .inl (fun _ => 0))), (q5, .inl (k 0, 20, .inl (fun _ => 0))), (q6, .inl (k 0, 96, .inl (fun _ => 0))), (q7, .inl (k 0, 4, .inl (fun _ => 0)))] := hD
    refine W.widen (k := 7) (n := 1878) (Nat.le_of_ble_eq_true rfl) (Nat.le_of_ble_eq_true rfl) ?_
    refine va_putF (D := D) (ci := 8) (v := .ref q7) (ty := .array .int) (C := RX8) (T := TX8) (N := 13) hx hb hts iX8 tyX8 tyX8_ok nmX8 hown hK hP hD hS 0 rfl rfl 9 (by decide) w11 (fun _ h9 => h9) rfl hin rfl (by decide +kernel) rfl rfl (Nat.le_of_ble_eq_true rfl) dX8_init_59 (fun H locs hP hD hS => ?_)
    have hP : va_P D vwCl [(h0, .inr (8, [.int 0, .ref q1, .ref q2, .ref q3, .int 0, .ref q4, .ref q5, .int 0, .ref q6, .ref q7, .null, .null, .int 0])), (q1, .inl (k 0, 554, .inl (fun _ => 0))), (q2, .inl (k 0, 554, .inl (fun _ => 0))), (q3, .inl (k 0, 554, .inl (fun _ => 0))), (q4, .inl (k 0, 96, .inl (fun _ => 0))), (q5, .inl (k 0, 20, .inl (fun _ => 0))), (q6, .inl (k 0, 96, .inl (fun _ => 0))), (q7, .inl (k 0, 4, .inl (fun _ => 0)))] H := hP
    have hD : va_D (va_A [(h0, .inr (8, [.int 0, .null, .null, .null, .int 0, .null, .null, .int 0, .null, .null, .null, .null, .int 0]))] ss.heap.size) [(h0, .inr (8, [.int 0, .ref q1, .ref q2, .ref q3, .int 0, .ref q4, .ref q5, .int 0, .ref q6, .ref q7, .null, .null, .int 0])), (q1, .inl (k 0, 554, .inl (fun _ => 0))), (q2, .inl (k 0, 554, .inl (fun _ => 0))), (q3, .inl (k 0, 554, .inl (fun _ => 0))), (q4, .inl (k 0, 96, .inl (fun _ => 0))), (q5, .inl (k 0, 20, .inl (fun _ => 0))), (q6, .inl (k 0, 96, .inl (fun _ => 0))), (q7, .inl (k 0, 4, .inl (fun _ => 0)))] := hD
    refine lv_aload_n hx hb dX8_init_62 rfl (lv_at hl 0 rfl) ?_
    refine lv_iconst (v := 4) hx hb dX8_init_63 (by decide) ?_
    refine nwI hx hb w4 hK hP hD hS hA 4 (by decide) rfl (by decide) (Nat.le_of_ble_eq_true rfl) (Nat.le_of_ble_eq_true rfl) dX8_init_64 (fun q8 H hP hD hS => ?_)
    have hP : va_P D vwCl [(h0, .inr (8, [.int 0, .ref q1, .ref q2, .ref q3, .int 0, .ref q4, .ref q5, .int 0, .ref q6, .ref q7, .null, .null, .int 0])), (q1, .inl (k 0, 554, .inl (fun _ => 0))), (q2, .inl (k 0, 554, .inl (fun _ => 0))), (q3, .inl (k 0, 554, .inl (fun _ => 0))), (q4, .inl (k 0, 96, .inl (fun _ => 0))), (q5, .inl (k 0, 20, .inl (fun _ => 0))), (q6, .inl (k 0, 96, .inl (fun _ => 0))), (q7, .inl (k 0, 4, .inl (fun _ => 0))), (q8, .inl (k 0, 4, .inl (fun _ => 0)))] H := hP
    have hD : va_D (va_A [(h0, .inr (8, [.int 0, .null, .null, .null, .int 0, .null, .null, .int 0, .null, .null, .null, .null, .int 0]))] ss.heap.size) [(h0, .inr (8, [.int 0, .ref q1, .ref q2, .ref q3, .int 0, .ref q4, .ref q5, .int 0, .ref q6, .ref q7, .null, .null, .int 0])), (q1, .inl (k 0, 554, .inl (fun _ => 0))), (q2, .inl (k 0, 554, .inl (fun _ => 0))), (q3, .inl (k 0, 554, .inl (fun _ => 0))), (q4, .inl (k 0, 96, .inl (fun _ => 0))), (q5, .inl (k 0, 20, .inl (fun _ => 0))), (q6, .inl (k 0, 96, .inl (fun _ => 0))), (q7, .inl (k 0, 4, .inl (fun _ => 0))), (q8, .inl (k 0, 4, .inl (fun _ => 0)))] := hD
    refine W.widen (k := 8) (n := 1882) (Nat.le_of_ble_eq_true rfl) (Nat.le_of_ble_eq_true rfl) ?_
    refine va_putF (D := D) (ci := 8) (v := .ref q8) (ty := .array .int) (C := RX8) (T := TX8) (N := 13) hx hb hts iX8 tyX8 tyX8_ok nmX8 hown hK hP hD hS 0 rfl rfl 10 (by decide) w12 (fun _ h9 => h9) rfl hin rfl (by decide +kernel) rfl rfl (Nat.le_of_ble_eq_true rfl) dX8_init_66 (fun H locs hP hD hS => ?_)
    have hP : va_P D vwCl [(h0, .inr (8, [.int 0, .ref q1, .ref q2, .ref q3, .int 0, .ref q4, .ref q5, .int 0, .ref q6, .ref q7, .ref q8, .null, .int 0])), (q1, .inl (k 0, 554, .inl (fun _ => 0))), (q2, .inl (k 0, 554, .inl (fun _ => 0))), (q3, .inl (k 0, 554, .inl (fun _ => 0))), (q4, .inl (k 0, 96, .inl (fun _ => 0))), (q5, .inl (k 0, 20, .inl (fun _ => 0))), (q6, .inl (k 0, 96, .inl (fun _ => 0))), (q7, .inl (k 0, 4, .inl (fun _ => 0))), (q8, .inl (k 0, 4, .inl (fun _ => 0)))] H := hP
    have hD : va_D (va_A [(h0, .inr (8, [.int 0, .null, .null, .null, .int 0, .null, .null, .int 0, .null, .null, .null, .null, .int 0]))] ss.heap.size) [(h0, .inr (8, [.int 0, .ref q1, .ref q2, .ref q3, .int 0, .ref q4, .ref q5, .int 0, .ref q6, .ref q7, .ref q8, .null, .int 0])), (q1, .inl (k 0, 554, .inl (fun _ => 0))), (q2, .inl (k 0, 554, .inl (fun _ => 0))), (q3, .inl (k 0, 554, .inl (fun _ => 0))), (q4, .inl (k 0, 96, .inl (fun _ => 0))), (q5, .inl (k 0, 20, .inl (fun _ => 0))), (q6, .inl (k 0, 96, .inl (fun _ => 0))), (q7, .inl (k 0, 4, .inl (fun _ => 0))), (q8, .inl (k 0, 4, .inl (fun _ => 0)))] := hD
    refine lv_aload_n hx hb dX8_init_69 rfl (lv_at hl 0 rfl) ?_
    refine lv_sipush (v := 160) hx hb dX8_init_70 (by decide) ?_
    refine nwL hx hb w13 hK hP hD hS hA 160 (by decide) rfl (by decide) (Nat.le_of_ble_eq_true rfl) (Nat.le_of_ble_eq_true rfl) dX8_init_73 (fun q9 H hP hD hS => ?_)
    have hP : va_P D vwCl [(h0, .inr (8, [.int 0, .ref q1, .ref q2, .ref q3, .int 0, .ref q4, .ref q5, .int 0, .ref q6, .ref q7, .ref q8, .null, .int 0])), (q1, .inl (k 0, 554, .inl (fun _ => 0))), (q2, .inl (k 0, 554, .inl (fun _ => 0))), (q3, .inl (k 0, 554, .inl (fun _ => 0))), (q4, .inl (k 0, 96, .inl (fun _ => 0))), (q5, .inl (k 0, 20, .inl (fun _ => 0))), (q6, .inl (k 0, 96, .inl (fun _ => 0))), (q7, .inl (k 0, 4, .inl (fun _ => 0))), (q8, .inl (k 0, 4, .inl (fun _ => 0))), (q9, .inl (k 1, 160, .inr (.inl (fun _ => 0))))] H := hP
    have hD : va_D (va_A [(h0, .inr (8, [.int 0, .null, .null, .null, .int 0, .null, .null, .int 0, .null, .null, .null, .null, .int 0]))] ss.heap.size) [(h0, .inr (8, [.int 0, .ref q1, .ref q2, .ref q3, .int 0, .ref q4, .ref q5, .int 0, .ref q6, .ref q7, .ref q8, .null, .int 0])), (q1, .inl (k 0, 554, .inl (fun _ => 0))), (q2, .inl (k 0, 554, .inl (fun _ => 0))), (q3, .inl (k 0, 554, .inl (fun _ => 0))), (q4, .inl (k 0, 96, .inl (fun _ => 0))), (q5, .inl (k 0, 20, .inl (fun _ => 0))), (q6, .inl (k 0, 96, .inl (fun _ => 0))), (q7, .inl (k 0, 4, .inl (fun _ => 0))), (q8, .inl (k 0, 4, .inl (fun _ => 0))), (q9, .inl (k 1, 160, .inr (.inl (fun _ => 0))))] := hD
    refine W.widen (k := 9) (n := 2042) (Nat.le_of_ble_eq_true rfl) (Nat.le_of_ble_eq_true rfl) ?_
    refine va_putF (D := D) (ci := 8) (v := .ref q9) (ty := .array .long) (C := RX8) (T := TX8) (N := 13) hx hb hts iX8 tyX8 tyX8_ok nmX8 hown hK hP hD hS 0 rfl rfl 11 (by decide) w14 (fun _ h9 => h9) rfl hin rfl (by decide +kernel) rfl rfl (Nat.le_of_ble_eq_true rfl) dX8_init_75 (fun H locs hP hD hS => ?_)
    have hP : va_P D vwCl [(h0, .inr (8, [.int 0, .ref q1, .ref q2, .ref q3, .int 0, .ref q4, .ref q5, .int 0, .ref q6, .ref q7, .ref q8, .ref q9, .int 0])), (q1, .inl (k 0, 554, .inl (fun _ => 0))), (q2, .inl (k 0, 554, .inl (fun _ => 0))), (q3, .inl (k 0, 554, .inl (fun _ => 0))), (q4, .inl (k 0, 96, .inl (fun _ => 0))), (q5, .inl (k 0, 20, .inl (fun _ => 0))), (q6, .inl (k 0, 96, .inl (fun _ => 0))), (q7, .inl (k 0, 4, .inl (fun _ => 0))), (q8, .inl (k 0, 4, .inl (fun _ => 0))), (q9, .inl (k 1, 160, .inr (.inl (fun _ => 0))))] H := hP
    have hD : va_D (va_A [(h0, .inr (8, [.int 0, .null, .null, .null, .int 0, .null, .null, .int 0, .null, .null, .null, .null, .int 0]))] ss.heap.size) [(h0, .inr (8, [.int 0, .ref q1, .ref q2, .ref q3, .int 0, .ref q4, .ref q5, .int 0, .ref q6, .ref q7, .ref q8, .ref q9, .int 0])), (q1, .inl (k 0, 554, .inl (fun _ => 0))), (q2, .inl (k 0, 554, .inl (fun _ => 0))), (q3, .inl (k 0, 554, .inl (fun _ => 0))), (q4, .inl (k 0, 96, .inl (fun _ => 0))), (q5, .inl (k 0, 20, .inl (fun _ => 0))), (q6, .inl (k 0, 96, .inl (fun _ => 0))), (q7, .inl (k 0, 4, .inl (fun _ => 0))), (q8, .inl (k 0, 4, .inl (fun _ => 0))), (q9, .inl (k 1, 160, .inr (.inl (fun _ => 0))))] := hD
    have hP : va_P D vwCl (wModel k (fun j => [h0, q1, q2, q3, q4, q5, q6, q7, q8, q9].getD j 0) (fun _ => 0) (fun _ => 0) (fun _ => 0) (fun _ => 0) (fun _ => 0) (fun _ => 0) (fun _ => 0) (fun _ => 0) (fun _ => 0) 0 0 0 0) H := hP
    have hD : va_D (va_A [(h0, .inr (8, [.int 0, .null, .null, .null, .int 0, .null, .null, .int 0, .null, .null, .null, .null, .int 0]))] ss.heap.size) (wModel k (fun j => [h0, q1, q2, q3, q4, q5, q6, q7, q8, q9].getD j 0) (fun _ => 0) (fun _ => 0) (fun _ => 0) (fun _ => 0) (fun _ => 0) (fun _ => 0) (fun _ => 0) (fun _ => 0) (fun _ => 0) 0 0 0 0) := hD
    have hl : lv_has ls 2 [(0, .ref ((fun j => [h0, q1, q2, q3, q4, q5, q6, q7, q8, q9].getD j 0) 0))] := hl
    have ea : (fun j => [h0, q1, q2, q3, q4, q5, q6, q7, q8, q9].getD j 0) 0 = h0 := rfl
    generalize (fun j => [h0, q1, q2, q3, q4, q5, q6, q7, q8, q9].getD j 0) = aa at hP hD hl ea
    exact tX8 hx hb hown hts hK hP hD hS hl (fun s qs H locs ls hI hP hD hS => cRk hx hb hr hlk hK (aa, s, qs) ⟨ea, hI⟩ hP hD hS dX8_init_128)
  exact key ss.heap [] rfl rfl hP hS
