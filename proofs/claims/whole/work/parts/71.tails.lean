/-! ===== constructors: their loops ===== -/
def P00 : PSt := fun a _ => if a = 9 then 1 else 0
def IniP (P : PSt) : Prop := (∀ t, t < 20 → P 0 t = m1 ∧ P 2 t = m1 ∧ P 3 t = m1 ∧ P 5 t = m1) ∧ (∀ i, i < 240 → P 6 i = m1) ∧ (∀ t, P 1 t = 0 ∧ P 4 t = 0) ∧ (∀ b, P 7 b = 0 ∧ P 8 b = 0) ∧ P 9 0 = 1 ∧ P 10 0 = 0
def IniJ (i : Nat) (P : PSt) : Prop := (∀ t, t < i → P 0 t = m1 ∧ P 2 t = m1 ∧ P 3 t = m1 ∧ P 5 t = m1) ∧ (∀ t, P 1 t = 0 ∧ P 4 t = 0) ∧ (∀ b, P 7 b = 0 ∧ P 8 b = 0) ∧ P 9 0 = 1 ∧ P 10 0 = 0
def IniK (i : Nat) (P : PSt) : Prop := (∀ t, t < 20 → P 0 t = m1 ∧ P 2 t = m1 ∧ P 3 t = m1 ∧ P 5 t = m1) ∧ (∀ j, j < i → P 6 j = m1) ∧ (∀ t, P 1 t = 0 ∧ P 4 t = 0) ∧ (∀ b, P 7 b = 0 ∧ P 8 b = 0) ∧ P 9 0 = 1 ∧ P 10 0 = 0
theorem IniJ_0 : IniJ 0 P00 := ⟨fun t ht => absurd ht (Nat.not_lt_zero t), fun _ => ⟨rfl, rfl⟩, fun _ => ⟨rfl, rfl⟩, rfl, rfl⟩
theorem IniJ_s {i : Nat} {P P1 P2 P3 P4 : PSt} {x : Nat} (hx : x = i) (h : IniJ i P) (e1 : P1 = st P 0 x (-1)) (e2 : P2 = st P1 2 x (-1)) (e3 : P3 = st P2 3 x (-1)) (e4 : P4 = st P3 5 x (-1)) : IniJ (i + 1) P4 := by
  subst hx
  obtain ⟨h1, h2, h3, h4, h5⟩ := h
  subst e1; subst e2; subst e3; subst e4
  refine ⟨fun t ht => ?_, fun t => ?_, fun b => ?_, ?_, ?_⟩
  · simp only [st_if]
    by_cases e : t = x
    · simp [e]
    · have := h1 t (by omega)
      simp [e, this]
  · simp only [st_if]
    simpa using h2 t
  · simp only [st_if]
    simpa using h3 b
  · simp only [st_if]
    simpa using h4
  · simp only [st_if]
    simpa using h5
theorem IniK_0 {P : PSt} (h : IniJ 20 P) : IniK 0 P := ⟨h.1, fun j hj => absurd hj (Nat.not_lt_zero j), h.2⟩
theorem IniK_s {i : Nat} {P P1 : PSt} {x : Nat} (hx : x = i) (h : IniK i P) (e1 : P1 = st P 6 x (-1)) : IniK (i + 1) P1 := by
  subst hx
  obtain ⟨h0, h1, h2, h3, h4, h5⟩ := h
  subst e1
  refine ⟨fun t ht => ?_, fun j hj => ?_, fun t => ?_, fun b => ?_, ?_, ?_⟩
  · simp only [st_if]
    simpa using h0 t ht
  · simp only [st_if]
    by_cases e : j = x
    · simp [e]
    · have := h1 j (by omega)
      simp [e, this]
  · simp only [st_if]
    simpa using h2 t
  · simp only [st_if]
    simpa using h3 b
  · simp only [st_if]
    simpa using h4
  · simp only [st_if]
    simpa using h5
theorem va_up4 {a b c d : Nat} : va_up (va_up (va_up (va_up (fun _ => none) 0 (some a)) 1 (some b)) 2 (some c)) 3 (some d) = fun j => [some a, some b, some c, some d].getD j none := by
  funext j
  rcases (show j = 0 ∨ j = 1 ∨ j = 2 ∨ j = 3 ∨ 4 ≤ j by omega) with e | e | e | e | e
  · subst e; rfl
  · subst e; rfl
  · subst e; rfl
  · subst e; rfl
  · obtain ⟨i, rfl⟩ : ∃ i, j = i + 4 := ⟨j - 4, by omega⟩
    simp [va_up]
section TK
variable {p : Program} {l : Launch} {e : Env} {R : Room} {s : State} {m : MethodId} {args : Array Value} {below : List Frame} {meth : Method} {c : Code} {cells slots : Nat} {Q : State → Prop}
variable {D : va_G} {k : Nat → ClassId} {A : Nat → Prop}
set_option maxRecDepth 100000 in
set_option maxHeartbeats 4000000 in
theorem tX4b (hx : p.tables.exec = Jvm.exec) (hb : c.code = cX4_init) (hown : s.vm.findClass RX4 = some m.cls) (hts : ∀ w ∈ wsX4_init, w.before args s = true) (hK : va_K D vwCl (kTy k) s) {a : Nat → Nat}
    (kk : ∀ (P : PSt) (H : Heap) (locs : List Loc) (ls : Array Slot), IniP P → va_P D vwCl (wPool k a P) H → va_D A (wPool k a P) → va_S A s.heap H locs → W p l e R s m args below meth c H locs cells slots Q (F0 m 151 ls [])) :
    ∀ (n i : Nat) (P : PSt) (H : Heap) (locs : List Loc) (ls : Array Slot), i + n = 240 → IniK i P → va_P D vwCl (wPool k a P) H → va_D A (wPool k a P) → va_S A s.heap H locs → lv_has ls 2 [(1, .int (nI i)), (0, .ref (a 0))] → W p l e R s m args below meth c H locs cells slots Q (F0 m 131 ls []) := by
  have iX4 : ∀ w ∈ wsX40, w ∈ wsX4_init := fun _ h => List.mem_cons_of_mem _ (List.mem_append_right _ h)
  have wh := hts (.fieldLink RX4 30 "DeadListPool$Pool" "held" "[I") (by decide +kernel)
  intro n
  induction n with
  | zero =>
    intro i P H locs ls hi hI hP hD hS hl
    have e240 : i = 240 := by omega
    subst e240
    refine lv_iload_n hx hb dX4_init_131 rfl (lv_at hl 0 rfl) ?_
    refine lv_sipush (v := 240) hx hb dX4_init_132 (by decide) ?_
    refine lv_icmp_ge (tgt := 151) hx hb dX4_init_135 (by decide) (fun c1 => ?_) (fun c1 => ?_)
    · exact kk P H locs ls hI hP hD hS
    · exact absurd (by decide) c1
  | succ n ih =>
    intro i P H locs ls hi hI hP hD hS hl
    have hcl : Int32.toNatClampNeg (nI i) = i := nI_clE (by omega)
    refine lv_iload_n hx hb dX4_init_131 rfl (lv_at hl 0 rfl) ?_
    refine lv_sipush (v := 240) hx hb dX4_init_132 (by decide) ?_
    refine lv_icmp_ge (tgt := 151) hx hb dX4_init_135 (by decide) (fun c1 => ?_) (fun c1 => ?_)
    · rw [L240, nI_leE (by omega) (by omega)] at c1
      omega
    · refine lv_aload_n hx hb dX4_init_138 rfl (lv_at hl 1 rfl) ?_
      refine va_get (D := D) (ci := 4) (v := .ref (a 7)) (C := RX4) (T := TX4) (N := 11) hx hb hts iX4 hown hK hP 0 rfl rfl 6 (by decide) wh (fun _ h9 => h9) rfl dX4_init_139 ?_
      refine lv_iload_n hx hb dX4_init_142 rfl (lv_at hl 0 rfl) ?_
      refine lv_iconst (v := (-1)) hx hb dX4_init_143 (by decide) ?_
      obtain ⟨P1, e1⟩ : ∃ P1, P1 = st P 6 (Int32.toNatClampNeg (nI i)) (-1) := ⟨_, rfl⟩
      refine va_iast hx hb hK hP hD hS 7 0 rfl rfl (ix_in (ix_nI (by omega) (by omega))) dX4_init_144 (fun H locs hP hD hS => ?_)
      have hP : va_P D vwCl (wPool k a P1) H := by rw [e1]; exact hP
      have hD : va_D _ (wPool k a P1) := va_D_adr (by rw [e1]; rfl) hD
      refine lv_iinc (v := nI i + 1) (lv' := [(1, .int (nI i + 1)), (0, .ref (a 0))]) hx hb dX4_init_145 hl (k := 0) rfl rfl (by decide) rfl (fun ls hl => ?_)
      refine lv_goto (tgt := 131) hx hb dX4_init_148 (by decide) ?_
      rw [show nI i + 1 = nI (i + 1) from nI_succE i] at hl
      exact ih (i + 1) P1 H locs ls (by omega) (IniK_s hcl hI e1) hP hD hS hl
set_option maxRecDepth 100000 in
set_option maxHeartbeats 4000000 in
theorem tX4a (hx : p.tables.exec = Jvm.exec) (hb : c.code = cX4_init) (hown : s.vm.findClass RX4 = some m.cls) (hts : ∀ w ∈ wsX4_init, w.before args s = true) (hK : va_K D vwCl (kTy k) s) {a : Nat → Nat}
    (kk : ∀ (P : PSt) (H : Heap) (locs : List Loc) (ls : Array Slot), IniJ 20 P → va_P D vwCl (wPool k a P) H → va_D A (wPool k a P) → va_S A s.heap H locs → lv_has ls 2 [(1, .int (nI 20)), (0, .ref (a 0))] → W p l e R s m args below meth c H locs cells slots Q (F0 m 129 ls [])) :
    ∀ (n i : Nat) (P : PSt) (H : Heap) (locs : List Loc) (ls : Array Slot), i + n = 20 → IniJ i P → va_P D vwCl (wPool k a P) H → va_D A (wPool k a P) → va_S A s.heap H locs → lv_has ls 2 [(1, .int (nI i)), (0, .ref (a 0))] → W p l e R s m args below meth c H locs cells slots Q (F0 m 89 ls []) := by
  have iX4 : ∀ w ∈ wsX40, w ∈ wsX4_init := fun _ h => List.mem_cons_of_mem _ (List.mem_append_right _ h)
  have w0 := hts (.fieldLink RX4 9 "DeadListPool$Pool" "kind" "[I") (by decide +kernel)
  have w2 := hts (.fieldLink RX4 18 "DeadListPool$Pool" "prev" "[I") (by decide +kernel)
  have w3 := hts (.fieldLink RX4 21 "DeadListPool$Pool" "owner" "[I") (by decide +kernel)
  have w5 := hts (.fieldLink RX4 27 "DeadListPool$Pool" "quota" "[I") (by decide +kernel)
  intro n
  induction n with
  | zero =>
    intro i P H locs ls hi hI hP hD hS hl
    have e20 : i = 20 := by omega
    subst e20
    refine lv_iload_n hx hb dX4_init_89 rfl (lv_at hl 0 rfl) ?_
    refine lv_bipush (v := 20) hx hb dX4_init_90 (by decide) ?_
    refine lv_icmp_ge (tgt := 129) hx hb dX4_init_92 (by decide) (fun c1 => ?_) (fun c1 => ?_)
    · exact kk P H locs ls hI hP hD hS hl
    · exact absurd (by decide) c1
  | succ n ih =>
    intro i P H locs ls hi hI hP hD hS hl
    have hcl : Int32.toNatClampNeg (nI i) = i := nI_clE (by omega)
    have hix : vp_in (nI i) 20 := ix_in (ix_nI (by omega) (by omega))
    refine lv_iload_n hx hb dX4_init_89 rfl (lv_at hl 0 rfl) ?_
    refine lv_bipush (v := 20) hx hb dX4_init_90 (by decide) ?_
    refine lv_icmp_ge (tgt := 129) hx hb dX4_init_92 (by decide) (fun c1 => ?_) (fun c1 => ?_)
    · rw [L20, nI_leE (by omega) (by omega)] at c1
      omega
    · refine lv_aload_n hx hb dX4_init_95 rfl (lv_at hl 1 rfl) ?_
      refine va_get (D := D) (ci := 4) (v := .ref (a 1)) (C := RX4) (T := TX4) (N := 11) hx hb hts iX4 hown hK hP 0 rfl rfl 0 (by decide) w0 (fun _ h9 => h9) rfl dX4_init_96 ?_
      refine lv_iload_n hx hb dX4_init_99 rfl (lv_at hl 0 rfl) ?_
      refine lv_iconst (v := (-1)) hx hb dX4_init_100 (by decide) ?_
      obtain ⟨P1, e1⟩ : ∃ P1, P1 = st P 0 (Int32.toNatClampNeg (nI i)) (-1) := ⟨_, rfl⟩
      refine va_iast hx hb hK hP hD hS 1 0 rfl rfl hix dX4_init_101 (fun H locs hP hD hS => ?_)
      have hP : va_P D vwCl (wPool k a P1) H := by rw [e1]; exact hP
      have hD : va_D _ (wPool k a P1) := va_D_adr (by rw [e1]; rfl) hD
      refine lv_aload_n hx hb dX4_init_102 rfl (lv_at hl 1 rfl) ?_
      refine va_get (D := D) (ci := 4) (v := .ref (a 3)) (C := RX4) (T := TX4) (N := 11) hx hb hts iX4 hown hK hP 0 rfl rfl 2 (by decide) w2 (fun _ h9 => h9) rfl dX4_init_103 ?_
      refine lv_iload_n hx hb dX4_init_106 rfl (lv_at hl 0 rfl) ?_
      refine lv_iconst (v := (-1)) hx hb dX4_init_107 (by decide) ?_
      obtain ⟨P2, e2⟩ : ∃ P2, P2 = st P1 2 (Int32.toNatClampNeg (nI i)) (-1) := ⟨_, rfl⟩
      refine va_iast hx hb hK hP hD hS 3 0 rfl rfl hix dX4_init_108 (fun H locs hP hD hS => ?_)
      have hP : va_P D vwCl (wPool k a P2) H := by rw [e2]; exact hP
      have hD : va_D _ (wPool k a P2) := va_D_adr (by rw [e2]; rfl) hD
      refine lv_aload_n hx hb dX4_init_109 rfl (lv_at hl 1 rfl) ?_
      refine va_get (D := D) (ci := 4) (v := .ref (a 4)) (C := RX4) (T := TX4) (N := 11) hx hb hts iX4 hown hK hP 0 rfl rfl 3 (by decide) w3 (fun _ h9 => h9) rfl dX4_init_110 ?_
      refine lv_iload_n hx hb dX4_init_113 rfl (lv_at hl 0 rfl) ?_
      refine lv_iconst (v := (-1)) hx hb dX4_init_114 (by decide) ?_
      obtain ⟨P3, e3⟩ : ∃ P3, P3 = st P2 3 (Int32.toNatClampNeg (nI i)) (-1) := ⟨_, rfl⟩
      refine va_iast hx hb hK hP hD hS 4 0 rfl rfl hix dX4_init_115 (fun H locs hP hD hS => ?_)
      have hP : va_P D vwCl (wPool k a P3) H := by rw [e3]; exact hP
      have hD : va_D _ (wPool k a P3) := va_D_adr (by rw [e3]; rfl) hD
      refine lv_aload_n hx hb dX4_init_116 rfl (lv_at hl 1 rfl) ?_
      refine va_get (D := D) (ci := 4) (v := .ref (a 6)) (C := RX4) (T := TX4) (N := 11) hx hb hts iX4 hown hK hP 0 rfl rfl 5 (by decide) w5 (fun _ h9 => h9) rfl dX4_init_117 ?_
      refine lv_iload_n hx hb dX4_init_120 rfl (lv_at hl 0 rfl) ?_
      refine lv_iconst (v := (-1)) hx hb dX4_init_121 (by decide) ?_
      obtain ⟨P4, e4⟩ : ∃ P4, P4 = st P3 5 (Int32.toNatClampNeg (nI i)) (-1) := ⟨_, rfl⟩
      refine va_iast hx hb hK hP hD hS 6 0 rfl rfl hix dX4_init_122 (fun H locs hP hD hS => ?_)
      have hP : va_P D vwCl (wPool k a P4) H := by rw [e4]; exact hP
      have hD : va_D _ (wPool k a P4) := va_D_adr (by rw [e4]; rfl) hD
      refine lv_iinc (v := nI i + 1) (lv' := [(1, .int (nI i + 1)), (0, .ref (a 0))]) hx hb dX4_init_123 hl (k := 0) rfl rfl (by decide) rfl (fun ls hl => ?_)
      refine lv_goto (tgt := 89) hx hb dX4_init_126 (by decide) ?_
      rw [show nI i + 1 = nI (i + 1) from nI_succE i] at hl
      exact ih (i + 1) P4 H locs ls (by omega) (IniJ_s hcl hI e1 e2 e3 e4) hP hD hS hl
theorem tX4 (hx : p.tables.exec = Jvm.exec) (hb : c.code = cX4_init) (hown : s.vm.findClass RX4 = some m.cls) (hts : ∀ w ∈ wsX4_init, w.before args s = true) (hK : va_K D vwCl (kTy k) s) {a : Nat → Nat} {H : Heap} {locs : List Loc} {ls : Array Slot} (hP : va_P D vwCl (wPool k a P00) H) (hD : va_D A (wPool k a P00)) (hS : va_S A s.heap H locs) (hl : lv_has ls 2 [(0, .ref (a 0))])
    (kk : ∀ (P : PSt) (H : Heap) (locs : List Loc) (ls : Array Slot), IniP P → va_P D vwCl (wPool k a P) H → va_D A (wPool k a P) → va_S A s.heap H locs → W p l e R s m args below meth c H locs cells slots Q (F0 m 151 ls [])) : W p l e R s m args below meth c H locs cells slots Q (F0 m 87 ls []) := by
  refine lv_iconst (v := 0) hx hb dX4_init_87 (by decide) ?_
  refine lv_istore_n (lv' := [(1, .int 0), (0, .ref (a 0))]) hx hb dX4_init_88 rfl hl (by decide) rfl (fun ls hl => ?_)
  refine tX4a hx hb hown hts hK (a := a) (fun P H locs ls hI hP hD hS hl => ?_) 20 0 P00 H locs ls (by omega) IniJ_0 hP hD hS hl
  refine lv_iconst (v := 0) hx hb dX4_init_129 (by decide) ?_
  refine lv_istore_n (lv' := [(1, .int 0), (0, .ref (a 0))]) hx hb dX4_init_130 rfl hl (by decide) rfl (fun ls hl => ?_)
  exact tX4b hx hb hown hts hK (a := a) kk 240 0 P H locs ls (by omega) (IniK_0 hI) hP hD hS hl
/-! the reference's -/
def IniS (s0 qs : RSt) : Prop := s0 0 = 1 ∧ s0 1 = 0 ∧ (∀ t, t < 20 → s0 (2 + t) = m1) ∧ (∀ b, b < 96 → s0 (362 + b) = 0) ∧ ∀ i, i < 4 → qs i = m1
def IniT (i : Nat) (s0 : RSt) : Prop := s0 0 = 1 ∧ s0 1 = 0 ∧ (∀ t, t < i → s0 (2 + t) = m1) ∧ ∀ b, b < 96 → s0 (362 + b) = 0
theorem IniT_s {i x : Nat} {s0 s1 : RSt} (hi : i < 20) (hx : x = 2 + i) (h : IniT i s0) (e : s1 = upd s0 x (-1)) : IniT (i + 1) s1 := by
  subst hx
  subst e
  obtain ⟨h1, h2, h3, h4⟩ := h
  refine ⟨?_, ?_, fun t ht => ?_, fun b hb => ?_⟩
  · rw [upd_ne (by omega)]; exact h1
  · rw [upd_ne (by omega)]; exact h2
  · by_cases e : t = i
    · rw [e, upd_eq]
    · rw [upd_ne (by omega)]; exact h3 t (by omega)
  · rw [upd_ne (by omega)]; exact h4 b hb
abbrev wM0 (k : Nat → ClassId) (g : Nat → Nat) (s0 qs : RSt) : va_W := wModel k g s0 (fun _ => 0) (fun _ => 0) (fun _ => 0) (fun _ => 0) (fun _ => 0) qs (fun _ => 0) (fun _ => 0) 0 0 0 0
set_option maxRecDepth 100000 in
set_option maxHeartbeats 4000000 in
theorem tX8b (hx : p.tables.exec = Jvm.exec) (hb : c.code = cX8_init) (hown : s.vm.findClass RX8 = some m.cls) (hts : ∀ w ∈ wsX8_init, w.before args s = true) (hK : va_K D vwCl (kTy k) s) {a : Nat → Nat} {s0 : RSt}
    (kk : ∀ (qs : RSt) (H : Heap) (locs : List Loc) (ls : Array Slot), (∀ j, j < 4 → qs j = m1) → va_P D vwCl (wM0 k a s0 qs) H → va_D A (wM0 k a s0 qs) → va_S A s.heap H locs → W p l e R s m args below meth c H locs cells slots Q (F0 m 128 ls [])) :
    ∀ (n i : Nat) (qs : RSt) (H : Heap) (locs : List Loc) (ls : Array Slot), i + n = 4 → (∀ j, j < i → qs j = m1) → va_P D vwCl (wM0 k a s0 qs) H → va_D A (wM0 k a s0 qs) → va_S A s.heap H locs → lv_has ls 2 [(1, .int (nI i)), (0, .ref (a 0))] → W p l e R s m args below meth c H locs cells slots Q (F0 m 110 ls []) := by
  have iX8 : ∀ w ∈ wsX80, w ∈ wsX8_init := fun _ h => List.mem_cons_of_mem _ (List.mem_append_right _ h)
  have wh := hts (.fieldLink RX8 28 "DeadListPoolModel" "sorts" "[I") (by decide +kernel)
  intro n
  induction n with
  | zero =>
    intro i qs H locs ls hi hI hP hD hS hl
    have e4 : i = 4 := by omega
    subst e4
    refine lv_iload_n hx hb dX8_init_110 rfl (lv_at hl 0 rfl) ?_
    refine lv_iconst (v := 4) hx hb dX8_init_111 (by decide) ?_
    refine lv_icmp_ge (tgt := 128) hx hb dX8_init_112 (by decide) (fun c1 => ?_) (fun c1 => ?_)
    · exact kk qs H locs ls hI hP hD hS
    · exact absurd (by decide) c1
  | succ n ih =>
    intro i qs H locs ls hi hI hP hD hS hl
    have hcl : Int32.toNatClampNeg (nI i) = i := nI_clE (by omega)
    refine lv_iload_n hx hb dX8_init_110 rfl (lv_at hl 0 rfl) ?_
    refine lv_iconst (v := 4) hx hb dX8_init_111 (by decide) ?_
    refine lv_icmp_ge (tgt := 128) hx hb dX8_init_112 (by decide) (fun c1 => ?_) (fun c1 => ?_)
    · rw [L4, nI_leE (by omega) (by omega)] at c1
      omega
    · refine lv_aload_n hx hb dX8_init_115 rfl (lv_at hl 1 rfl) ?_
      refine va_get (D := D) (ci := 8) (v := .ref (a 7)) (C := RX8) (T := TX8) (N := 13) hx hb hts iX8 hown hK hP 0 rfl rfl 9 (by decide) wh (fun _ h9 => h9) rfl dX8_init_116 ?_
      refine lv_iload_n hx hb dX8_init_119 rfl (lv_at hl 0 rfl) ?_
      refine lv_iconst (v := (-1)) hx hb dX8_init_120 (by decide) ?_
      obtain ⟨q1, e1⟩ : ∃ q1, q1 = upd qs (Int32.toNatClampNeg (nI i)) (-1) := ⟨_, rfl⟩
      refine va_iast hx hb hK hP hD hS 7 0 rfl rfl (ix_in (ix_nI (by omega) (by omega))) dX8_init_121 (fun H locs hP hD hS => ?_)
      have hP : va_P D vwCl (wM0 k a s0 q1) H := by rw [e1]; exact hP
      have hD : va_D _ (wM0 k a s0 q1) := va_D_adr (by rw [e1]; rfl) hD
      refine lv_iinc (v := nI i + 1) (lv' := [(1, .int (nI i + 1)), (0, .ref (a 0))]) hx hb dX8_init_122 hl (k := 0) rfl rfl (by decide) rfl (fun ls hl => ?_)
      refine lv_goto (tgt := 110) hx hb dX8_init_125 (by decide) ?_
      rw [show nI i + 1 = nI (i + 1) from nI_succE i] at hl
      refine ih (i + 1) q1 H locs ls (by omega) (fun j hj => ?_) hP hD hS hl
      rw [e1, hcl]
      by_cases e : j = i
      · rw [e, upd_eq]
      · rw [upd_ne e]; exact hI j (by omega)
set_option maxRecDepth 100000 in
set_option maxHeartbeats 4000000 in
theorem tX8a (hx : p.tables.exec = Jvm.exec) (hb : c.code = cX8_init) (hown : s.vm.findClass RX8 = some m.cls) (hts : ∀ w ∈ wsX8_init, w.before args s = true) (hK : va_K D vwCl (kTy k) s) {a : Nat → Nat}
    (kk : ∀ (s0 : RSt) (H : Heap) (locs : List Loc) (ls : Array Slot), IniT 20 s0 → va_P D vwCl (wM0 k a s0 (fun _ => 0)) H → va_D A (wM0 k a s0 (fun _ => 0)) → va_S A s.heap H locs → lv_has ls 2 [(1, .int (nI 20)), (0, .ref (a 0))] → W p l e R s m args below meth c H locs cells slots Q (F0 m 108 ls [])) :
    ∀ (n i : Nat) (s0 : RSt) (H : Heap) (locs : List Loc) (ls : Array Slot), i + n = 20 → IniT i s0 → va_P D vwCl (wM0 k a s0 (fun _ => 0)) H → va_D A (wM0 k a s0 (fun _ => 0)) → va_S A s.heap H locs → lv_has ls 2 [(1, .int (nI i)), (0, .ref (a 0))] → W p l e R s m args below meth c H locs cells slots Q (F0 m 87 ls []) := by
  have iX8 : ∀ w ∈ wsX80, w ∈ wsX8_init := fun _ h => List.mem_cons_of_mem _ (List.mem_append_right _ h)
  have wh := hts (.fieldLink RX8 7 "DeadListPoolModel" "s" "[I") (by decide +kernel)
  intro n
  induction n with
  | zero =>
    intro i s0 H locs ls hi hI hP hD hS hl
    have e4 : i = 20 := by omega
    subst e4
    refine lv_iload_n hx hb dX8_init_87 rfl (lv_at hl 0 rfl) ?_
    refine lv_bipush (v := 20) hx hb dX8_init_88 (by decide) ?_
    refine lv_icmp_ge (tgt := 108) hx hb dX8_init_90 (by decide) (fun c1 => ?_) (fun c1 => ?_)
    · exact kk s0 H locs ls hI hP hD hS hl
    · exact absurd (by decide) c1
  | succ n ih =>
    intro i s0 H locs ls hi hI hP hD hS hl
    have e2 : (2 : Int32) + nI i = nI (2 + i) := nI_addE 2 i
    have hcl : Int32.toNatClampNeg (2 + nI i) = 2 + i := by rw [e2]; exact nI_clE (by omega)
    refine lv_iload_n hx hb dX8_init_87 rfl (lv_at hl 0 rfl) ?_
    refine lv_bipush (v := 20) hx hb dX8_init_88 (by decide) ?_
    refine lv_icmp_ge (tgt := 108) hx hb dX8_init_90 (by decide) (fun c1 => ?_) (fun c1 => ?_)
    · rw [L20, nI_leE (by omega) (by omega)] at c1
      omega
    · refine lv_aload_n hx hb dX8_init_93 rfl (lv_at hl 1 rfl) ?_
      refine va_get (D := D) (ci := 8) (v := .ref (a 1)) (C := RX8) (T := TX8) (N := 13) hx hb hts iX8 hown hK hP 0 rfl rfl 1 (by decide) wh (fun _ h9 => h9) rfl dX8_init_94 ?_
      refine lv_iconst (v := 2) hx hb dX8_init_97 (by decide) ?_
      refine lv_iload_n hx hb dX8_init_98 rfl (lv_at hl 0 rfl) ?_
      refine lv_iadd hx hb dX8_init_99 ?_
      refine lv_iconst (v := (-1)) hx hb dX8_init_100 (by decide) ?_
      obtain ⟨s1, e1⟩ : ∃ s1, s1 = upd s0 (Int32.toNatClampNeg (2 + nI i)) (-1) := ⟨_, rfl⟩
      refine va_iast hx hb hK hP hD hS 1 0 rfl rfl (ix_in (by rw [e2]; exact ix_nI (by omega) (by omega))) dX8_init_101 (fun H locs hP hD hS => ?_)
      have hP : va_P D vwCl (wM0 k a s1 (fun _ => 0)) H := by rw [e1]; exact hP
      have hD : va_D _ (wM0 k a s1 (fun _ => 0)) := va_D_adr (by rw [e1]; rfl) hD
      refine lv_iinc (v := nI i + 1) (lv' := [(1, .int (nI i + 1)), (0, .ref (a 0))]) hx hb dX8_init_102 hl (k := 0) rfl rfl (by decide) rfl (fun ls hl => ?_)
      refine lv_goto (tgt := 87) hx hb dX8_init_105 (by decide) ?_
      rw [show nI i + 1 = nI (i + 1) from nI_succE i] at hl
      exact ih (i + 1) s1 H locs ls (by omega) (IniT_s (by omega) hcl hI e1) hP hD hS hl
set_option maxRecDepth 100000 in
set_option maxHeartbeats 4000000 in
theorem tX8 (hx : p.tables.exec = Jvm.exec) (hb : c.code = cX8_init) (hown : s.vm.findClass RX8 = some m.cls) (hts : ∀ w ∈ wsX8_init, w.before args s = true) (hK : va_K D vwCl (kTy k) s) {a : Nat → Nat} {H : Heap} {locs : List Loc} {ls : Array Slot} (hP : va_P D vwCl (wM0 k a (fun _ => 0) (fun _ => 0)) H) (hD : va_D A (wM0 k a (fun _ => 0) (fun _ => 0))) (hS : va_S A s.heap H locs) (hl : lv_has ls 2 [(0, .ref (a 0))])
    (kk : ∀ (s0 qs : RSt) (H : Heap) (locs : List Loc) (ls : Array Slot), IniS s0 qs → va_P D vwCl (wM0 k a s0 qs) H → va_D A (wM0 k a s0 qs) → va_S A s.heap H locs → W p l e R s m args below meth c H locs cells slots Q (F0 m 128 ls [])) : W p l e R s m args below meth c H locs cells slots Q (F0 m 78 ls []) := by
  have iX8 : ∀ w ∈ wsX80, w ∈ wsX8_init := fun _ h => List.mem_cons_of_mem _ (List.mem_append_right _ h)
  have wh := hts (.fieldLink RX8 7 "DeadListPoolModel" "s" "[I") (by decide +kernel)
  refine lv_aload_n hx hb dX8_init_78 rfl (lv_at hl 0 rfl) ?_
  refine va_get (D := D) (ci := 8) (v := .ref (a 1)) (C := RX8) (T := TX8) (N := 13) hx hb hts iX8 hown hK hP 0 rfl rfl 1 (by decide) wh (fun _ h9 => h9) rfl dX8_init_79 ?_
  refine lv_iconst (v := 0) hx hb dX8_init_82 (by decide) ?_
  refine lv_iconst (v := 1) hx hb dX8_init_83 (by decide) ?_
  obtain ⟨s1, e1⟩ : ∃ s1 : RSt, s1 = upd (fun _ => 0) (Int32.toNatClampNeg 0) 1 := ⟨_, rfl⟩
  refine va_iast hx hb hK hP hD hS 1 0 rfl rfl (ix_in (by decide)) dX8_init_84 (fun H locs hP hD hS => ?_)
  have hP : va_P D vwCl (wM0 k a s1 (fun _ => 0)) H := by rw [e1]; exact hP
  have hD : va_D _ (wM0 k a s1 (fun _ => 0)) := va_D_adr (by rw [e1]; rfl) hD
  have hT : IniT 0 s1 := by
    rw [e1]
    refine ⟨rfl, rfl, fun t ht => absurd ht (Nat.not_lt_zero t), fun b hb => ?_⟩
    rw [show Int32.toNatClampNeg 0 = 0 by decide, upd_ne (by omega)]
  refine lv_iconst (v := 0) hx hb dX8_init_85 (by decide) ?_
  refine lv_istore_n (lv' := [(1, .int 0), (0, .ref (a 0))]) hx hb dX8_init_86 rfl hl (by decide) rfl (fun ls hl => ?_)
  refine tX8a hx hb hown hts hK (a := a) (fun s0 H locs ls hI hP hD hS hl => ?_) 20 0 s1 H locs ls (by omega) hT hP hD hS hl
  refine lv_iconst (v := 0) hx hb dX8_init_108 (by decide) ?_
  refine lv_istore_n (lv' := [(1, .int 0), (0, .ref (a 0))]) hx hb dX8_init_109 rfl hl (by decide) rfl (fun ls hl => ?_)
  exact tX8b hx hb hown hts hK (a := a) (s0 := s0) (fun qs H locs ls hq hP hD hS => kk s0 qs H locs ls ⟨hI.1, hI.2.1, hI.2.2.1, hI.2.2.2, hq⟩ hP hD hS) 4 0 (fun _ => 0) H locs ls (by omega) (fun j hj => absurd hj (Nat.not_lt_zero j)) hP hD hS hl
end TK
