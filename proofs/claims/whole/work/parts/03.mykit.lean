/-! ===== rows of my own: pure answers, contracts over a world of fixed cells, starts, ends, calls ===== -/
abbrev kTy (k : Nat → ClassId) : List (ClassId × FieldType) := [(k 0, .int), (k 1, .long), (k 2, .object "DeadListPool$Sheet")]
def ix (i : Int32) (n : Nat) : Bool := decide (¬ (i < 0 ∨ n ≤ i.toNatClampNeg))
theorem ix_in {i : Int32} {n : Nat} (h : ix i n = true) : vp_in i n := by
  unfold ix at h
  have h2 := of_decide_eq_true h
  exact h2
def grd {α : Type} (b : Bool) (x : Option α) : Option α := match b with
  | true => x
  | false => none
theorem grd_i {α : Type} {b : Bool} {x : Option α} {r : α} (h : grd b x = some r) : b = true ∧ x = some r := by
  cases b with
  | true => exact ⟨rfl, h⟩
  | false => cases h
theorem ifp {α : Type} {c : Prop} {d : Decidable c} {a b r : α} (h : (@ite α c d a b) = r) (hc : c) : a = r := by rw [if_pos hc] at h; exact h
theorem ifn {α : Type} {c : Prop} {d : Decidable c} {a b r : α} (h : (@ite α c d a b) = r) (hc : ¬ c) : b = r := by rw [if_neg hc] at h; exact h
def lt1 {α β : Type} (v : α) (f : α → β) : β := f v
theorem lt_i {α β : Type} {v : α} {f : α → β} {r : β} (h : lt1 v f = r) : ∃ x, x = v ∧ f x = r := ⟨v, rfl, h⟩
def bn1 {α β : Type} (x : Option α) (f : α → Option β) : Option β := match x with
  | some a => f a
  | none => none
def bn2 {α β γ : Type} (x : Option (α × β)) (f : α → β → Option γ) : Option γ := match x with
  | some (a, b) => f a b
  | none => none
def bn3 {α β γ δ : Type} (x : Option (α × β × γ)) (f : α → β → γ → Option δ) : Option δ := match x with
  | some (a, b, c) => f a b c
  | none => none
def bn4 {α β γ δ ε : Type} (x : Option (α × β × γ × δ)) (f : α → β → γ → δ → Option ε) : Option ε := match x with
  | some (a, b, c, d) => f a b c d
  | none => none
def bn5 {α β γ δ ε ζ : Type} (x : Option (α × β × γ × δ × ε)) (f : α → β → γ → δ → ε → Option ζ) : Option ζ := match x with
  | some (a, b, c, d, e) => f a b c d e
  | none => none
theorem bn1_i {α β : Type} {x : Option α} {f : α → Option β} {r : β} (h : bn1 x f = some r) : ∃ a, x = some a ∧ f a = some r := by
  cases x with
  | none => cases h
  | some a => exact ⟨a, rfl, h⟩
theorem bn2_i {α β γ : Type} {x : Option (α × β)} {f : α → β → Option γ} {r : γ} (h : bn2 x f = some r) : ∃ a b, x = some (a, b) ∧ f a b = some r := by
  cases x with
  | none => cases h
  | some a => exact ⟨a.1, a.2, rfl, h⟩
theorem bn3_i {α β γ δ : Type} {x : Option (α × β × γ)} {f : α → β → γ → Option δ} {r : δ} (h : bn3 x f = some r) : ∃ a b c, x = some (a, b, c) ∧ f a b c = some r := by
  cases x with
  | none => cases h
  | some a => exact ⟨a.1, a.2.1, a.2.2, rfl, h⟩
theorem bn4_i {α β γ δ ε : Type} {x : Option (α × β × γ × δ)} {f : α → β → γ → δ → Option ε} {r : ε} (h : bn4 x f = some r) : ∃ a b c d, x = some (a, b, c, d) ∧ f a b c d = some r := by
  cases x with
  | none => cases h
  | some a => exact ⟨a.1, a.2.1, a.2.2.1, a.2.2.2, rfl, h⟩
theorem bn5_i {α β γ δ ε ζ : Type} {x : Option (α × β × γ × δ × ε)} {f : α → β → γ → δ → ε → Option ζ} {r : ζ} (h : bn5 x f = some r) : ∃ a b c d e, x = some (a, b, c, d, e) ∧ f a b c d e = some r := by
  cases x with
  | none => cases h
  | some a => exact ⟨a.1, a.2.1, a.2.2.1, a.2.2.2.1, a.2.2.2.2, rfl, h⟩
/-- bundles of rows -/
def st (P : Nat → Nat → Int32) (k i : Nat) (v : Int32) : Nat → Nat → Int32 := fun a => if a = k then upd (P k) i v else P a
def stR (P : Nat → Nat → Int32) (k : Nat) (f : Nat → Int32) : Nat → Nat → Int32 := fun a => if a = k then f else P a
def stL (P : Nat → Nat → Int64) (k i : Nat) (v : Int64) : Nat → Nat → Int64 := fun a => if a = k then vp_updL (P k) i v else P a
def stRL (P : Nat → Nat → Int64) (k : Nat) (f : Nat → Int64) : Nat → Nat → Int64 := fun a => if a = k then f else P a
/-! contracts -/
def cPc (D : va_G) (k : Nat → ClassId) (av : List Value) (w0 : va_W) (sz : Nat) : Array Value → State → Prop := va_Pc av (fun U => U.heap.size = sz ∧ va_P D vwCl w0 U.heap ∧ va_K D vwCl (kTy k) U ∧ va_D (fun _ => True) w0)
def cB (D : va_G) (k : Nat → ClassId) (w0 : va_W) (sz : Nat) (w1 : va_W) : Unit → State → Prop := fun _ t => va_P D vwCl w1 t.heap ∧ va_K D vwCl (kTy k) t ∧ va_D (va_A w0 sz) w1
def cQi (D : va_G) (k : Nat → ClassId) (w0 : va_W) (sz : Nat) (r : Int32) (w1 : va_W) := va_Qi (fun (x : Int32) (_ : Unit) => x = r) (cB D k w0 sz w1) (va_A w0 sz)
def cQl (D : va_G) (k : Nat → ClassId) (w0 : va_W) (sz : Nat) (r : Int64) (w1 : va_W) := va_Ql (fun (x : Int64) (_ : Unit) => x = r) (cB D k w0 sz w1) (va_A w0 sz)
def cQv (D : va_G) (k : Nat → ClassId) (w0 : va_W) (sz : Nat) (w1 : va_W) := va_Qv (fun (_ : Unit) => True) (cB D k w0 sz w1) (va_A w0 sz)
def CtI (l : Launch) (D : va_G) (k : Nat → ClassId) (y : MethodName) (ws : List Cond) (rm : Room) (av : List Value) (w0 : va_W) (r : Int32) (w1 : va_W) : Prop := ∀ sz : Nat, Met l y ws rm (cPc D k av w0 sz) (cQi D k w0 sz r w1) 0 0 (va_A w0 sz)
def CtL (l : Launch) (D : va_G) (k : Nat → ClassId) (y : MethodName) (ws : List Cond) (rm : Room) (av : List Value) (w0 : va_W) (r : Int64) (w1 : va_W) : Prop := ∀ sz : Nat, Met l y ws rm (cPc D k av w0 sz) (cQl D k w0 sz r w1) 0 0 (va_A w0 sz)
def CtV (l : Launch) (D : va_G) (k : Nat → ClassId) (y : MethodName) (ws : List Cond) (rm : Room) (av : List Value) (w0 : va_W) (w1 : va_W) : Prop := ∀ sz : Nat, Met l y ws rm (cPc D k av w0 sz) (cQv D k w0 sz w1) 0 0 (va_A w0 sz)
/-- what a method's walk knows all along -/
def Cx (p : Program) (s : State) (m : MethodId) (meth : Method) (c : Code) (D : va_G) (k : Nat → ClassId) (own : String) (cc : ByteArray) (nL : Nat) (ret : Option FieldType) (ws : List Cond) (args : Array Value) : Prop :=
  p.tables.exec = Jvm.exec ∧ c.code = cc ∧ meth.sig.returnType = ret ∧ c.maxLocals = nL ∧ s.vm.findClass own = some m.cls ∧ (∀ w ∈ ws, w.before args s = true) ∧ va_K D vwCl (kTy k) s ∧ meth.locks = false
theorem cPc_blind {D : va_G} {k : Nat → ClassId} {av : List Value} {w0 : va_W} {sz : Nat} : FrameBlind (cPc D k av w0 sz) := by
  intro a U g mk q
  obtain ⟨q0, q1, qP, qK, qD⟩ := q
  exact ⟨q0, q1, qP, va_K.moved (u := U) (U := U.calling g mk a) (Vm.Alike.refl U.vm) qK, qD⟩
theorem cSt {l : Launch} {D : va_G} {k : Nat → ClassId} {y : MethodName} {ws ws' : List Cond} {rm : Room} {av : List Value} {w0 : va_W} {cc : ByteArray} {nL : Nat} {ret : Option FieldType} {own : String} {lv : List (Nat × Value)} {Qc : Array Value → State → Outcome → State → Prop} {sz : Nat}
    (hy : plainName y.cls = true) (hw : ws = Cond.code y cc nL ret :: ws') (ho : y.cls = own) (hlen : (lg_sl av).length ≤ nL) (hlv : lv_args 0 av = lv)
    (body : ∀ (p : Program) (e : Env) (s : State) (m : MethodId) (below : List Frame) (meth : Method) (c : Code), s.heap.size = sz → Cx p s m meth c D k own cc nL ret ws av.toArray → va_P D vwCl w0 s.heap → va_D (va_A w0 s.heap.size) w0 → va_S (va_A w0 s.heap.size) s.heap s.heap [] → ∀ ls : Array Slot, lv_has ls nL lv →
      W p l e rm s m av.toArray below meth c s.heap [] 0 0 (MQ below Qc av.toArray s 0 0 (va_A w0 s.heap.size)) (F0 m 0 ls [])) : Met l y ws rm (cPc D k av w0 sz) Qc 0 0 (va_A w0 sz) := by
  subst ho
  refine Met.ofW (cc := cc) (maxL := nL) (ret := ret) hy hw ?_
  intro p e s m args below meth c s₁ B hml hv
  obtain ⟨rfl, hsz, hP, hK, hD0⟩ := hv
  subst hsz
  have hl := lv_entry av (n := nL) hlen
  rw [lg_entry_eq]
  rw [hlv] at hl
  exact body p e s m below meth c rfl ⟨B.exec, B.bytes, B.returns, hml, findClass_of_methodNamed B.named, atoms_spec (ws := ws) B.pre, hK, B.notSynchronized⟩ hP (hD0.self) va_S.rf _ hl
section CR
variable {p : Program} {l : Launch} {e : Env} {R : Room} {s : State} {m : MethodId} {args : Array Value} {below : List Frame} {meth : Method} {c : Code} {H : Heap} {locs : List Loc} {cells slots : Nat} {Q : State → Prop}
variable {D : va_G} {k : Nat → ClassId} {cc : ByteArray} {pc : Nat} {ls : Array Slot} {w0 w1 : va_W}
theorem cRi {ty : FieldType} {r : Int32} (hx : p.tables.exec = Jvm.exec) (hb : c.code = cc) (hr : meth.sig.returnType = some ty) (hlk : meth.locks = false) (hK : va_K D vwCl (kTy k) s) (hn : narrow ty (.int r) = .int r) (hP : va_P D vwCl w1 H) (hD : va_D (va_A w0 s.heap.size) w1) (hS : va_S (va_A w0 s.heap.size) s.heap H locs) (hdg : decode cc pc = .ok (.ireturn, 1)) :
    W p l e R s m args below meth c H locs 0 0 (MQ below (cQi D k w0 s.heap.size r w1) args s 0 0 (va_A w0 s.heap.size)) (F0 m pc ls [.int r]) :=
  W.zret hx hb hr hn (fun t ht hW => ⟨⟨r, (), rfl, rfl, by rw [ht]; exact hP, va_K.moved hW.alike hK, hD⟩, hS.F ht⟩) hS.2.2 hdg hlk
theorem cRl {r : Int64} (hx : p.tables.exec = Jvm.exec) (hb : c.code = cc) (hr : meth.sig.returnType = some .long) (hlk : meth.locks = false) (hK : va_K D vwCl (kTy k) s) (hP : va_P D vwCl w1 H) (hD : va_D (va_A w0 s.heap.size) w1) (hS : va_S (va_A w0 s.heap.size) s.heap H locs) (hdg : decode cc pc = .ok (.lreturn, 1)) :
    W p l e R s m args below meth c H locs 0 0 (MQ below (cQl D k w0 s.heap.size r w1) args s 0 0 (va_A w0 s.heap.size)) (F0 m pc ls [.long r]) :=
  W.lret hx hb hr (fun t ht hW => ⟨⟨r, (), rfl, rfl, by rw [ht]; exact hP, va_K.moved hW.alike hK, hD⟩, hS.F ht⟩) hS.2.2 hdg hlk
theorem cRv (hx : p.tables.exec = Jvm.exec) (hb : c.code = cc) (hr : meth.sig.returnType = none) (hlk : meth.locks = false) (hK : va_K D vwCl (kTy k) s) (hP : va_P D vwCl w1 H) (hD : va_D (va_A w0 s.heap.size) w1) (hS : va_S (va_A w0 s.heap.size) s.heap H locs) (hdg : decode cc pc = .ok (.return_, 1)) :
    W p l e R s m args below meth c H locs 0 0 (MQ below (cQv D k w0 s.heap.size w1) args s 0 0 (va_A w0 s.heap.size)) (F0 m pc ls []) :=
  W.vret hx hb hr (fun t ht hW => ⟨⟨(), rfl, trivial, by rw [ht]; exact hP, va_K.moved hW.alike hK, hD⟩, hS.F ht⟩) hS.2.2 hdg hlk
end CR
theorem va_D_adr {A : Nat → Prop} {ws ws' : va_W} (he : ws'.map Prod.fst = ws.map Prod.fst) (h : va_D A ws) : va_D A ws' := by
  have key : ∀ (k : Nat) (q : Nat × va_E), ws'[k]? = some q → ∃ q0, ws[k]? = some q0 ∧ q0.1 = q.1 := by
    intro k q hk
    have h1 : (ws'.map Prod.fst)[k]? = some q.1 := by rw [List.getElem?_map, hk]; rfl
    rw [he, List.getElem?_map] at h1
    cases hq : ws[k]? with
    | none => rw [hq] at h1; cases h1
    | some q0 => rw [hq] at h1; exact ⟨q0, rfl, Option.some.inj h1⟩
  refine ⟨fun i j x y hi hj hxy => ?_, fun k q hk => ?_⟩
  · obtain ⟨x0, a1, a2⟩ := key i x hi
    obtain ⟨y0, b1, b2⟩ := key j y hj
    exact h.1 i j x0 y0 a1 b1 (a2.trans (hxy.trans b2.symm))
  · obtain ⟨q0, h1, h2⟩ := key k q hk
    rw [← h2]
    exact h.2 k q0 h1
theorem at_of_map {ws w : va_W} {is : List Nat} (hs : is.map (fun i => ws[i]?) = w.map some) (k : Nat) (q : Nat × va_E) (hq : w[k]? = some q) : ∃ i, is[k]? = some i ∧ ws[i]? = some q := by
  have h1 : (is.map (fun i => ws[i]?))[k]? = some (some q) := by rw [hs, List.getElem?_map, hq]; rfl
  rw [List.getElem?_map] at h1
  cases hi : is[k]? with
  | none => rw [hi] at h1; cases h1
  | some i => rw [hi] at h1; exact ⟨i, rfl, Option.some.inj h1⟩
theorem va_P_map {D : va_G} {cl : List vw_C} {ws w : va_W} {H : Heap} (h : va_P D cl ws H) {is : List Nat} (hs : is.map (fun i => ws[i]?) = w.map some) : va_P D cl w H := by
  intro k q hk
  obtain ⟨i, -, hi⟩ := at_of_map hs k q hk
  exact h i q hi
/-- behind a call that leaves its cells as they were -/
theorem cJoinR {D : va_G} {cl : List vw_C} {A : Nat → Prop} {ws wc : va_W} {H H1 : Heap} (hP : va_P D cl ws H) (hD : va_D A ws) (isC : List Nat) (hC : isC.map (fun i => ws[i]?) = wc.map some)
    (hk : ∀ q : Nat, q < H.size → ¬ va_A wc H.size q → H1[q]? = H[q]?) (hP1 : va_P D cl wc H1) : va_P D cl ws H1 := by
  intro k q hq
  rcases Classical.em (∃ (j : Nat) (e : va_E), wc[j]? = some (q.1, e)) with ⟨j, e2, z⟩ | z
  · obtain ⟨i, g1, g2⟩ := at_of_map hC j (q.1, e2) z
    have hik := hD.1 i k (q.1, e2) q g2 hq rfl
    subst hik
    have hqe : q = (q.1, e2) := Option.some.inj (hq.symm.trans g2)
    rw [hqe]
    exact hP1 j _ z
  · have hl := (hP k q hq).lt
    refine (hP k q hq).kept (hk q.1 hl (fun w => ?_))
    rcases w with ⟨k2, e2, w⟩ | w
    · exact z ⟨k2, e2, w⟩
    · omega
/-- two rows of cells that agree where the mask says so -/
def agr : List Bool → va_W → va_W → Prop
  | true :: m, a :: l, b :: r => a = b ∧ agr m l r
  | false :: m, _ :: l, _ :: r => agr m l r
  | _, _, _ => True
theorem agr_at : ∀ (m : List Bool) (l r : va_W) (k : Nat), agr m l r → m[k]? = some true → k < l.length → k < r.length → l[k]? = r[k]?
  | [], _, _, _, _, h, _, _ => by simp at h
  | _ :: _, [], _, k, _, _, h, _ => by simp at h
  | _ :: _, _ :: _, [], k, _, _, _, h => by simp at h
  | true :: m, a :: l, b :: r, 0, h, _, _, _ => by simp only [agr] at h; rw [h.1]; rfl
  | false :: m, a :: l, b :: r, 0, _, h, _, _ => by simp at h
  | true :: m, a :: l, b :: r, k + 1, h, h2, h3, h4 => by
    simp only [agr] at h
    simpa using agr_at m l r k h.2 (by simpa using h2) (by simpa using h3) (by simpa using h4)
  | false :: m, a :: l, b :: r, k + 1, h, h2, h3, h4 => by
    simp only [agr] at h
    simpa using agr_at m l r k h (by simpa using h2) (by simpa using h3) (by simpa using h4)
/-- behind a call: the callee's cells as it left them, the others as they were -/
theorem cJoinW {D : va_G} {cl : List vw_C} {A : Nat → Prop} {ws wc w1 wf : va_W} {H H1 : Heap} (hP : va_P D cl ws H) (hD : va_D A ws) (isC : List Nat) (mR : List Bool) (hC : isC.map (fun i => ws[i]?) = wc.map some) (hC1 : isC.map (fun i => wf[i]?) = w1.map some) (hR : agr mR wf ws) (nw : Nat) (hnw : wf.length = nw) (hall : (List.range nw).all (fun i => isC.elem i || (mR[i]? == some true)) = true) (ha : wf.map Prod.fst = ws.map Prod.fst)
    (hk : ∀ q : Nat, q < H.size → ¬ va_A wc H.size q → H1[q]? = H[q]?) (hP1 : va_P D cl w1 H1) : va_P D cl wf H1 ∧ va_D A wf := by
  refine ⟨fun k q hq => ?_, va_D_adr ha hD⟩
  have hlt : k < nw := by rw [← hnw]; exact (List.getElem?_eq_some_iff.mp hq).1
  rcases Classical.em (k ∈ isC) with hc | hc
  · obtain ⟨j, hj⟩ := List.getElem?_of_mem hc
    have h1 : (isC.map (fun i => wf[i]?))[j]? = some (some q) := by rw [List.getElem?_map, hj, ← hq]; rfl
    rw [hC1, List.getElem?_map] at h1
    cases hw : w1[j]? with
    | none => rw [hw] at h1; cases h1
    | some q2 => rw [hw] at h1; cases h1; exact hP1 j q hw
  · have h2 := List.all_eq_true.mp hall k (List.mem_range.mpr hlt)
    rw [Bool.or_eq_true] at h2
    have h3 : mR[k]? = some true := by
      rcases h2 with h2 | h2
      · exact absurd (List.elem_iff.mp h2) hc
      · exact eq_of_beq h2
    have hlen : wf.length = ws.length := by have := congrArg List.length ha; simpa using this
    have h4 : ws[k]? = some q := by
      rw [← agr_at mR wf ws k hR h3 (by omega) (by omega)]
      exact hq
    have hl := (hP k q h4).lt
    refine (hP k q h4).kept (hk q.1 hl (fun z => ?_))
    rcases z with ⟨k2, e2, z⟩ | z
    · obtain ⟨i, g1, g2⟩ := at_of_map hC k2 (q.1, e2) z
      have hik := hD.1 i k (q.1, e2) q g2 h4 rfl
      subst hik
      exact hc (List.mem_of_getElem? g1)
    · omega
section CC
variable {p : Program} {l : Launch} {e : Env} {R : Room} {s : State} {m : MethodId} {args : Array Value} {below : List Frame} {meth : Method} {c : Code} {H : Heap} {locs : List Loc} {cells slots : Nat} {Q : State → Prop}
variable {D : va_G} {k : Nat → ClassId} {cc bytes : ByteArray} {pc nL n maxL index : Nat} {ls : Array Slot} {ws wc w1 wf : va_W} {A : Nat → Prop} {own C : String} {Ts wsC : List Cond} {y : MethodName} {rm : Room} {ret : Option FieldType} {b : Nat} {As st0 rest : List Value}
theorem cPreV {T : u_T} {N ci : Nat} {fs : List Value} (hK : va_K D vwCl (kTy k) s) (hP : va_P D vwCl ws H) (hD : va_D A ws) (isC : List Nat) (hn : va_nd isC = true) (hC : isC.map (fun i => ws[i]?) = wc.map some) (qc : Nat) (hc : vwCl[ci]? = some (C, T, N)) (he : wc[qc]? = some (b, .inr (ci, fs))) : PreV s H C b (cPc D k (.ref b :: As) wc H.size) As := by
  have hPc := va_P_map hP hC
  have hDc := hD.sub isC hn hC
  exact ⟨cPc_blind, va_recv hK hPc hc he, fun U hU hW => ⟨rfl, by rw [hU], by rw [hU]; exact hPc, va_K.moved hW.alike hK, hDc.weaken (fun _ _ _ _ => trivial)⟩⟩
theorem cPreS (hK : va_K D vwCl (kTy k) s) (hP : va_P D vwCl ws H) (hD : va_D A ws) (isC : List Nat) (hn : va_nd isC = true) (hC : isC.map (fun i => ws[i]?) = wc.map some) : PreS s H (cPc D k As wc H.size) As := by
  have hPc := va_P_map hP hC
  have hDc := hD.sub isC hn hC
  exact ⟨cPc_blind, fun U hU hW => ⟨rfl, by rw [hU], by rw [hU]; exact hPc, va_K.moved hW.alike hK, hDc.weaken (fun _ _ _ _ => trivial)⟩⟩
theorem cVir {T : u_T} {N ci : Nat} {fs : List Value} {r : Int32} (S : CallFix p m c cc nL s args Ts own) (hK : va_K D vwCl (kTy k) s) (hA : ∀ q, s.heap.size ≤ q → A q) (hP : va_P D vwCl ws H) (hD : va_D A ws) (hS : va_S A s.heap H locs) (hM : CtI l D k y wsC rm (.ref b :: As) wc r wc) (cw : CallW R s args own C index y bytes maxL ret wsC rm 0 0 n)
    (isC : List Nat) (hn : va_nd isC = true) (hC : isC.map (fun i => ws[i]?) = wc.map some) (qc : Nat) (hc : vwCl[ci]? = some (C, T, N)) (he : wc[qc]? = some (b, .inr (ci, fs))) (hl : As.length = n) (hsz : ls.size = nL) (hst : st0 = As.reverse ++ .ref b :: rest) (hrm : (rest.map fun v => v.category).sum ≤ 8) (hcs : cells ≤ R.cells ∧ slots ≤ R.slots) (hdg : decode cc pc = .ok (.invokevirtual index, 3))
    (kk : ∀ (H1 : Heap) (locs1 : List Loc), va_P D vwCl ws H1 → va_D A ws → va_S A s.heap H1 locs1 → W p l e R s m args below meth c H1 locs1 cells slots Q (F0 m (pc + 3) ls (.int r :: rest))) : W p l e R s m args below meth c H locs cells slots Q (F0 m pc ls st0) := by
  have hFc := va_free hD hS hA isC hC
  refine va_calli (va_runV (As := As) (rest := rest) S (hM H.size) cw (cPreV hK hP hD isC hn hC qc hc he) rfl hl hsz hst (lv_room hrm) hdg hcs) hS (fun q _ h => hFc q h) hFc (fun r1 u t H1 locs1 ht hvm hw hB hz1 hk1 hS1 => ?_)
  obtain ⟨hP1, hK1, hD1⟩ := hB
  rw [ht] at hP1
  subst hw
  exact kk H1 locs1 (cJoinR hP hD isC hC hk1 hP1) hD hS1
theorem cVlr {T : u_T} {N ci : Nat} {fs : List Value} {r : Int64} (S : CallFix p m c cc nL s args Ts own) (hK : va_K D vwCl (kTy k) s) (hA : ∀ q, s.heap.size ≤ q → A q) (hP : va_P D vwCl ws H) (hD : va_D A ws) (hS : va_S A s.heap H locs) (hM : CtL l D k y wsC rm (.ref b :: As) wc r wc) (cw : CallW R s args own C index y bytes maxL ret wsC rm 0 0 n)
    (isC : List Nat) (hn : va_nd isC = true) (hC : isC.map (fun i => ws[i]?) = wc.map some) (qc : Nat) (hc : vwCl[ci]? = some (C, T, N)) (he : wc[qc]? = some (b, .inr (ci, fs))) (hl : As.length = n) (hsz : ls.size = nL) (hst : st0 = As.reverse ++ .ref b :: rest) (hrm : (rest.map fun v => v.category).sum ≤ 8) (hcs : cells ≤ R.cells ∧ slots ≤ R.slots) (hdg : decode cc pc = .ok (.invokevirtual index, 3))
    (kk : ∀ (H1 : Heap) (locs1 : List Loc), va_P D vwCl ws H1 → va_D A ws → va_S A s.heap H1 locs1 → W p l e R s m args below meth c H1 locs1 cells slots Q (F0 m (pc + 3) ls (.long r :: rest))) : W p l e R s m args below meth c H locs cells slots Q (F0 m pc ls st0) := by
  have hFc := va_free hD hS hA isC hC
  refine va_calll (va_runV (As := As) (rest := rest) S (hM H.size) cw (cPreV hK hP hD isC hn hC qc hc he) rfl hl hsz hst (lv_room hrm) hdg hcs) hS (fun q _ h => hFc q h) hFc (fun r1 u t H1 locs1 ht hvm hw hB hz1 hk1 hS1 => ?_)
  obtain ⟨hP1, hK1, hD1⟩ := hB
  rw [ht] at hP1
  subst hw
  exact kk H1 locs1 (cJoinR hP hD isC hC hk1 hP1) hD hS1
theorem cVvr {T : u_T} {N ci : Nat} {fs : List Value} (S : CallFix p m c cc nL s args Ts own) (hK : va_K D vwCl (kTy k) s) (hA : ∀ q, s.heap.size ≤ q → A q) (hP : va_P D vwCl ws H) (hD : va_D A ws) (hS : va_S A s.heap H locs) (hM : CtV l D k y wsC rm (.ref b :: As) wc wc) (cw : CallW R s args own C index y bytes maxL ret wsC rm 0 0 n)
    (isC : List Nat) (hn : va_nd isC = true) (hC : isC.map (fun i => ws[i]?) = wc.map some) (qc : Nat) (hc : vwCl[ci]? = some (C, T, N)) (he : wc[qc]? = some (b, .inr (ci, fs))) (hl : As.length = n) (hsz : ls.size = nL) (hst : st0 = As.reverse ++ .ref b :: rest) (hrm : (rest.map fun v => v.category).sum ≤ 8) (hcs : cells ≤ R.cells ∧ slots ≤ R.slots) (hdg : decode cc pc = .ok (.invokevirtual index, 3))
    (kk : ∀ (H1 : Heap) (locs1 : List Loc), va_P D vwCl ws H1 → va_D A ws → va_S A s.heap H1 locs1 → W p l e R s m args below meth c H1 locs1 cells slots Q (F0 m (pc + 3) ls rest)) : W p l e R s m args below meth c H locs cells slots Q (F0 m pc ls st0) := by
  have hFc := va_free hD hS hA isC hC
  refine va_callv (va_runV (As := As) (rest := rest) S (hM H.size) cw (cPreV hK hP hD isC hn hC qc hc he) rfl hl hsz hst (lv_room hrm) hdg hcs) hS (fun q _ h => hFc q h) hFc (fun u t H1 locs1 ht hvm hw hB hz1 hk1 hS1 => ?_)
  obtain ⟨hP1, hK1, hD1⟩ := hB
  rw [ht] at hP1
  exact kk H1 locs1 (cJoinR hP hD isC hC hk1 hP1) hD hS1
theorem cVi {T : u_T} {N ci : Nat} {fs : List Value} {r : Int32} (S : CallFix p m c cc nL s args Ts own) (hK : va_K D vwCl (kTy k) s) (hA : ∀ q, s.heap.size ≤ q → A q) (hP : va_P D vwCl ws H) (hD : va_D A ws) (hS : va_S A s.heap H locs) (hM : CtI l D k y wsC rm (.ref b :: As) wc r w1) (cw : CallW R s args own C index y bytes maxL ret wsC rm 0 0 n)
    (isC : List Nat) (hn : va_nd isC = true) (hC : isC.map (fun i => ws[i]?) = wc.map some) (hC1 : isC.map (fun i => wf[i]?) = w1.map some) (mR : List Bool) (hR : agr mR wf ws) (nw : Nat) (hnw : wf.length = nw) (hall : (List.range nw).all (fun i => isC.elem i || (mR[i]? == some true)) = true) (ha : wf.map Prod.fst = ws.map Prod.fst) (qc : Nat) (hc : vwCl[ci]? = some (C, T, N)) (he : wc[qc]? = some (b, .inr (ci, fs))) (hl : As.length = n) (hsz : ls.size = nL) (hst : st0 = As.reverse ++ .ref b :: rest) (hrm : (rest.map fun v => v.category).sum ≤ 8) (hcs : cells ≤ R.cells ∧ slots ≤ R.slots) (hdg : decode cc pc = .ok (.invokevirtual index, 3))
    (kk : ∀ (H1 : Heap) (locs1 : List Loc), va_P D vwCl wf H1 → va_D A wf → va_S A s.heap H1 locs1 → W p l e R s m args below meth c H1 locs1 cells slots Q (F0 m (pc + 3) ls (.int r :: rest))) : W p l e R s m args below meth c H locs cells slots Q (F0 m pc ls st0) := by
  have hFc := va_free hD hS hA isC hC
  refine va_calli (va_runV (As := As) (rest := rest) S (hM H.size) cw (cPreV hK hP hD isC hn hC qc hc he) rfl hl hsz hst (lv_room hrm) hdg hcs) hS (fun q _ h => hFc q h) hFc (fun r1 u t H1 locs1 ht hvm hw hB hz1 hk1 hS1 => ?_)
  obtain ⟨hP1, hK1, hD1⟩ := hB
  rw [ht] at hP1
  subst hw
  obtain ⟨g1, g2⟩ := cJoinW hP hD isC mR hC hC1 hR nw hnw hall ha hk1 hP1
  exact kk H1 locs1 g1 g2 hS1
theorem cVl {T : u_T} {N ci : Nat} {fs : List Value} {r : Int64} (S : CallFix p m c cc nL s args Ts own) (hK : va_K D vwCl (kTy k) s) (hA : ∀ q, s.heap.size ≤ q → A q) (hP : va_P D vwCl ws H) (hD : va_D A ws) (hS : va_S A s.heap H locs) (hM : CtL l D k y wsC rm (.ref b :: As) wc r w1) (cw : CallW R s args own C index y bytes maxL ret wsC rm 0 0 n)
    (isC : List Nat) (hn : va_nd isC = true) (hC : isC.map (fun i => ws[i]?) = wc.map some) (hC1 : isC.map (fun i => wf[i]?) = w1.map some) (mR : List Bool) (hR : agr mR wf ws) (nw : Nat) (hnw : wf.length = nw) (hall : (List.range nw).all (fun i => isC.elem i || (mR[i]? == some true)) = true) (ha : wf.map Prod.fst = ws.map Prod.fst) (qc : Nat) (hc : vwCl[ci]? = some (C, T, N)) (he : wc[qc]? = some (b, .inr (ci, fs))) (hl : As.length = n) (hsz : ls.size = nL) (hst : st0 = As.reverse ++ .ref b :: rest) (hrm : (rest.map fun v => v.category).sum ≤ 8) (hcs : cells ≤ R.cells ∧ slots ≤ R.slots) (hdg : decode cc pc = .ok (.invokevirtual index, 3))
    (kk : ∀ (H1 : Heap) (locs1 : List Loc), va_P D vwCl wf H1 → va_D A wf → va_S A s.heap H1 locs1 → W p l e R s m args below meth c H1 locs1 cells slots Q (F0 m (pc + 3) ls (.long r :: rest))) : W p l e R s m args below meth c H locs cells slots Q (F0 m pc ls st0) := by
  have hFc := va_free hD hS hA isC hC
  refine va_calll (va_runV (As := As) (rest := rest) S (hM H.size) cw (cPreV hK hP hD isC hn hC qc hc he) rfl hl hsz hst (lv_room hrm) hdg hcs) hS (fun q _ h => hFc q h) hFc (fun r1 u t H1 locs1 ht hvm hw hB hz1 hk1 hS1 => ?_)
  obtain ⟨hP1, hK1, hD1⟩ := hB
  rw [ht] at hP1
  subst hw
  obtain ⟨g1, g2⟩ := cJoinW hP hD isC mR hC hC1 hR nw hnw hall ha hk1 hP1
  exact kk H1 locs1 g1 g2 hS1
theorem cVv {T : u_T} {N ci : Nat} {fs : List Value} (S : CallFix p m c cc nL s args Ts own) (hK : va_K D vwCl (kTy k) s) (hA : ∀ q, s.heap.size ≤ q → A q) (hP : va_P D vwCl ws H) (hD : va_D A ws) (hS : va_S A s.heap H locs) (hM : CtV l D k y wsC rm (.ref b :: As) wc w1) (cw : CallW R s args own C index y bytes maxL ret wsC rm 0 0 n)
    (isC : List Nat) (hn : va_nd isC = true) (hC : isC.map (fun i => ws[i]?) = wc.map some) (hC1 : isC.map (fun i => wf[i]?) = w1.map some) (mR : List Bool) (hR : agr mR wf ws) (nw : Nat) (hnw : wf.length = nw) (hall : (List.range nw).all (fun i => isC.elem i || (mR[i]? == some true)) = true) (ha : wf.map Prod.fst = ws.map Prod.fst) (qc : Nat) (hc : vwCl[ci]? = some (C, T, N)) (he : wc[qc]? = some (b, .inr (ci, fs))) (hl : As.length = n) (hsz : ls.size = nL) (hst : st0 = As.reverse ++ .ref b :: rest) (hrm : (rest.map fun v => v.category).sum ≤ 8) (hcs : cells ≤ R.cells ∧ slots ≤ R.slots) (hdg : decode cc pc = .ok (.invokevirtual index, 3))
    (kk : ∀ (H1 : Heap) (locs1 : List Loc), va_P D vwCl wf H1 → va_D A wf → va_S A s.heap H1 locs1 → W p l e R s m args below meth c H1 locs1 cells slots Q (F0 m (pc + 3) ls rest)) : W p l e R s m args below meth c H locs cells slots Q (F0 m pc ls st0) := by
  have hFc := va_free hD hS hA isC hC
  refine va_callv (va_runV (As := As) (rest := rest) S (hM H.size) cw (cPreV hK hP hD isC hn hC qc hc he) rfl hl hsz hst (lv_room hrm) hdg hcs) hS (fun q _ h => hFc q h) hFc (fun u t H1 locs1 ht hvm hw hB hz1 hk1 hS1 => ?_)
  obtain ⟨hP1, hK1, hD1⟩ := hB
  rw [ht] at hP1
  obtain ⟨g1, g2⟩ := cJoinW hP hD isC mR hC hC1 hR nw hnw hall ha hk1 hP1
  exact kk H1 locs1 g1 g2 hS1
/-- a static call that has no cells -/
theorem cSi {r : Int32} (S : CallFix p m c cc nL s args Ts own) (hK : va_K D vwCl (kTy k) s) (hA : ∀ q, s.heap.size ≤ q → A q) (hP : va_P D vwCl ws H) (hD : va_D A ws) (hS : va_S A s.heap H locs) (hM : CtI l D k y wsC rm As [] r []) (cw : CallB R s args own index y bytes maxL ret wsC rm 0 0 n ∧ (Cond.static y).before args s = true)
    (hl : As.length = n) (hsz : ls.size = nL) (hst : st0 = As.reverse ++ rest) (hrm : (rest.map fun v => v.category).sum ≤ 8) (hcs : cells ≤ R.cells ∧ slots ≤ R.slots) (hdg : decode cc pc = .ok (.invokestatic index, 3))
    (kk : ∀ (H1 : Heap) (locs1 : List Loc), va_P D vwCl ws H1 → va_D A ws → va_S A s.heap H1 locs1 → W p l e R s m args below meth c H1 locs1 cells slots Q (F0 m (pc + 3) ls (.int r :: rest))) : W p l e R s m args below meth c H locs cells slots Q (F0 m pc ls st0) := by
  have hFc := va_free (wc := []) hD hS hA [] rfl
  refine va_calli (va_runS (As := As) (rest := rest) S (hM H.size) cw (cPreS (wc := []) hK hP hD [] rfl rfl) rfl hl hsz hst (lv_room hrm) hdg hcs) hS (fun q _ h => hFc q h) hFc (fun r1 u t H1 locs1 ht hvm hw hB hz1 hk1 hS1 => ?_)
  obtain ⟨hP1, hK1, hD1⟩ := hB
  rw [ht] at hP1
  subst hw
  exact kk H1 locs1 (cJoinR (wc := []) hP hD [] rfl hk1 hP1) hD hS1
end CC
theorem tblOut {x : Int32} {n : Nat} (hn : n < 2 ^ 31) (h : ∀ i, i ≤ n → x ≠ nI i) : x.toInt < 0 ∨ (n : Int) < x.toInt := by
  rcases Decidable.em (x.toInt < 0) with h0 | h0
  · exact Or.inl h0
  · refine Or.inr ?_
    rcases Decidable.em ((n : Int) < x.toInt) with h1 | h1
    · exact h1
    · exfalso
      refine h x.toInt.toNat (by omega) ?_
      apply Int32.toInt_inj.mp
      rw [nI_toInt (by omega)]
      omega
theorem some1 {α : Type} {a b : α} (h : some a = some b) : a = b := Option.some.inj h
theorem some2 {α β : Type} {a c : α} {b d : β} (h : some (a, b) = some (c, d)) : a = c ∧ b = d := by cases h; exact ⟨rfl, rfl⟩
theorem some3 {α β γ : Type} {a a2 : α} {b b2 : β} {c c2 : γ} (h : some (a, b, c) = some (a2, b2, c2)) : a = a2 ∧ b = b2 ∧ c = c2 := by cases h; exact ⟨rfl, rfl, rfl⟩
theorem some4 {α β γ δ : Type} {a a2 : α} {b b2 : β} {c c2 : γ} {d d2 : δ} (h : some (a, b, c, d) = some (a2, b2, c2, d2)) : a = a2 ∧ b = b2 ∧ c = c2 ∧ d = d2 := by cases h; exact ⟨rfl, rfl, rfl, rfl⟩
theorem some5 {α β γ δ ε : Type} {a a2 : α} {b b2 : β} {c c2 : γ} {d d2 : δ} {e e2 : ε} (h : some (a, b, c, d, e) = some (a2, b2, c2, d2, e2)) : a = a2 ∧ b = b2 ∧ c = c2 ∧ d = d2 ∧ e = e2 := by cases h; exact ⟨rfl, rfl, rfl, rfl, rfl⟩
def isB (v : Int32) : Bool := decide (v = 0 ∨ v = 1)
theorem isB_n {v : Int32} (h : isB v = true) : narrow .boolean (.int v) = .int v := by
  unfold isB at h
  have h2 := of_decide_eq_true h
  rcases h2 with rfl | rfl <;> rfl
theorem ix4 {i : Int32} (h : ix i 4 = true) (c0 : ¬ i = 0) (c1 : ¬ i = 1) (c2 : ¬ i = 2) : i = 3 := by
  obtain ⟨j, hj, e⟩ := vp_in_of (ix_in h) (by decide)
  match j, hj with
  | 0, _ => exact absurd e c0
  | 1, _ => exact absurd e c1
  | 2, _ => exact absurd e c2
  | 3, _ => exact e
theorem lkOut2 {x : Int32} (h0 : x.toInt ≠ 0) (h1 : x.toInt ≠ 1) {a b c : Int} : Op.lookupswitch.offset [(0, a), (1, b)] c x.toInt = c := by
  simp [Op.lookupswitch.offset, h0, h1, Ne.symm h0, Ne.symm h1]
