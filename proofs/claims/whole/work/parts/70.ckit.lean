/-! ===== constructors: contracts, calls, new rows of numbers ===== -/
abbrev shC : String := "DeadListPool$Sheet"
def kPc (D : va_G) (k : Nat → ClassId) (av : List Value) (w0 : va_W) (sz : Nat) : Array Value → State → Prop := va_Pc av (fun U => U.heap.size = sz ∧ va_P D vwCl w0 U.heap ∧ va_K D vwCl (kTy k) U ∧ va_D (fun _ => True) w0 ∧ va_AO shC U)
def kB (D : va_G) (k : Nat → ClassId) {S : Type} (Wf : S → va_W) (w0 : va_W) (sz : Nat) : S → State → Prop := fun u t => va_P D vwCl (Wf u) t.heap ∧ va_K D vwCl (kTy k) t ∧ va_D (va_A w0 sz) (Wf u)
def CtK (l : Launch) (D : va_G) (k : Nat → ClassId) (y : MethodName) (ws : List Cond) (rm : Room) (av : List Value) (w0 : va_W) {S : Type} (Wf : S → va_W) (post : S → Prop) (mc ms : Nat) : Prop := ∀ sz : Nat, Met l y ws rm (kPc D k av w0 sz) (va_Qv post (kB D k Wf w0 sz) (va_A w0 sz)) mc ms (va_A w0 sz)
theorem kPc_blind {D : va_G} {k : Nat → ClassId} {av : List Value} {w0 : va_W} {sz : Nat} : FrameBlind (kPc D k av w0 sz) := by
  intro a U g mk q
  obtain ⟨q0, q1, qP, qK, qD, qO⟩ := q
  exact ⟨q0, q1, qP, va_K.moved (u := U) (U := U.calling g mk a) (Vm.Alike.refl U.vm) qK, qD, va_AO.moved (u := U) (U := U.calling g mk a) (Vm.Alike.refl U.vm) qO⟩
def CxK (p : Program) (s : State) (m : MethodId) (meth : Method) (c : Code) (D : va_G) (k : Nat → ClassId) (own : String) (cc : ByteArray) (nL : Nat) (ws : List Cond) (args : Array Value) : Prop :=
  p.tables.exec = Jvm.exec ∧ c.code = cc ∧ meth.sig.returnType = none ∧ c.maxLocals = nL ∧ s.vm.findClass own = some m.cls ∧ (∀ w ∈ ws, w.before args s = true) ∧ va_K D vwCl (kTy k) s ∧ meth.locks = false ∧ meth.name = "<init>" ∧ va_AO shC s
theorem cStK {l : Launch} {D : va_G} {k : Nat → ClassId} {y : MethodName} {ws ws' : List Cond} {rm : Room} {av : List Value} {w0 : va_W} {cc : ByteArray} {nL : Nat} {own : String} {lv : List (Nat × Value)} {Qc : Array Value → State → Outcome → State → Prop} {sz mc ms : Nat}
    (hy : plainName y.cls = true) (hnm : y.name = "<init>") (hw : ws = Cond.code y cc nL none :: ws') (ho : y.cls = own) (hlen : (lg_sl av).length ≤ nL) (hlv : lv_args 0 av = lv)
    (body : ∀ (p : Program) (e : Env) (s : State) (m : MethodId) (below : List Frame) (meth : Method) (c : Code), s.heap.size = sz → CxK p s m meth c D k own cc nL ws av.toArray → va_P D vwCl w0 s.heap → va_D (va_A w0 s.heap.size) w0 → va_S (va_A w0 s.heap.size) s.heap s.heap [] → ∀ ls : Array Slot, lv_has ls nL lv →
      W p l e rm s m av.toArray below meth c s.heap [] 0 0 (MQ below Qc av.toArray s mc ms (va_A w0 s.heap.size)) (F0 m 0 ls [])) : Met l y ws rm (kPc D k av w0 sz) Qc mc ms (va_A w0 sz) := by
  subst ho
  refine Met.ofW (cc := cc) (maxL := nL) (ret := none) hy hw ?_
  intro p e s m args below meth c s₁ B hml hv
  obtain ⟨rfl, hsz, hP, hK, hD0, hO⟩ := hv
  subst hsz
  have hl := lv_entry av (n := nL) hlen
  rw [lg_entry_eq]
  rw [hlv] at hl
  exact body p e s m below meth c rfl ⟨B.exec, B.bytes, B.returns, hml, findClass_of_methodNamed B.named, atoms_spec (ws := ws) B.pre, hK, B.notSynchronized, (name_of_methodNamed B.named B.method).1.trans hnm, hO⟩ hP (hD0.self) va_S.rf _ hl
section CK
variable {p : Program} {l : Launch} {e : Env} {R : Room} {s : State} {m : MethodId} {args : Array Value} {below : List Frame} {meth : Method} {c : Code} {H H0 : Heap} {locs : List Loc} {cells slots : Nat} {Q : State → Prop}
variable {D : va_G} {k : Nat → ClassId} {cc bytes : ByteArray} {pc nL n maxL index mc ms : Nat} {ls : Array Slot} {w0 ws wc wr : va_W} {A : Nat → Prop} {own : String} {Ts wsC : List Cond} {y : MethodName} {rm : Room} {b : Nat} {As st0 rest : List Value}
theorem cRk {S : Type} {Wf : S → va_W} {post : S → Prop} (hx : p.tables.exec = Jvm.exec) (hb : c.code = cc) (hr : meth.sig.returnType = none) (hlk : meth.locks = false) (hK : va_K D vwCl (kTy k) s) (u : S) (hu : post u) (hP : va_P D vwCl (Wf u) H) (hD : va_D (va_A w0 s.heap.size) (Wf u)) (hS : va_S (va_A w0 s.heap.size) s.heap H locs) (hdg : decode cc pc = .ok (.return_, 1)) :
    W p l e R s m args below meth c H locs mc ms (MQ below (va_Qv post (kB D k Wf w0 s.heap.size) (va_A w0 s.heap.size)) args s mc ms (va_A w0 s.heap.size)) (F0 m pc ls []) :=
  W.vret hx hb hr (fun t ht hW => ⟨⟨u, rfl, hu, by rw [ht]; exact hP, va_K.moved hW.alike hK, hD⟩, hS.F ht⟩) hS.2.2 hdg hlk
theorem kPreS (hK : va_K D vwCl (kTy k) s) (hO : va_AO shC s) (hP : va_P D vwCl ws H) (hD : va_D A ws) (isC : List Nat) (hn : va_nd isC = true) (hC : isC.map (fun i => ws[i]?) = wc.map some) : PreS s H (kPc D k As wc H.size) As := by
  have hPc := va_P_map hP hC
  have hDc := hD.sub isC hn hC
  exact ⟨kPc_blind, fun U hU hW => ⟨rfl, by rw [hU], by rw [hU]; exact hPc, va_K.moved hW.alike hK, hDc.weaken (fun _ _ _ _ => trivial), va_AO.moved hW.alike hO⟩⟩
/-- a constructor's call: the callee's world comes behind the rest -/
theorem cIni {S : Type} {Wf : S → va_W} {post : S → Prop} (S0 : CallFix p m c cc nL s args Ts own) (hK : va_K D vwCl (kTy k) s) (hO : va_AO shC s) (hA : ∀ q, s.heap.size ≤ q → A q) (hP : va_P D vwCl ws H) (hD : va_D A ws) (hS : va_S A s.heap H locs) (hM : CtK l D k y wsC rm (.ref b :: As) wc Wf post mc ms) (cw : CallB R s args own index y bytes maxL none wsC rm mc ms n ∧ y.name = "<init>" ∧ (Cond.instanceMethod y).before args s = true)
    (isC isR : List Nat) (hn : va_nd isC = true) (hC : isC.map (fun i => ws[i]?) = wc.map some) (hR : isR.map (fun i => ws[i]?) = wr.map some) (hnR : va_nd isR = true) (hdis : ∀ i ∈ isR, i ∉ isC) (hl : As.length = n) (hsz : ls.size = nL) (hst : st0 = As.reverse ++ .ref b :: rest) (hrm : (rest.map fun v => v.category).sum ≤ 8) (hcs : cells + mc ≤ R.cells ∧ slots + ms ≤ R.slots) (hdg : decode cc pc = .ok (.invokespecial index, 3))
    (kk : ∀ (u : S) (H1 : Heap) (locs1 : List Loc), post u → va_P D vwCl (wr ++ Wf u) H1 → va_D A (wr ++ Wf u) → va_S A s.heap H1 locs1 → W p l e R s m args below meth c H1 locs1 (cells + mc) (slots + ms) Q (F0 m (pc + 3) ls rest)) : W p l e R s m args below meth c H locs cells slots Q (F0 m pc ls st0) := by
  have hFc := va_free hD hS hA isC hC
  refine va_callv (va_runI (As := As) (rest := rest) S0 (hM H.size) cw (kPreS hK hO hP hD isC hn hC) rfl hl hsz hst (lv_room hrm) hdg hcs) hS (fun q _ h => hFc q h) hFc (fun u t H1 locs1 ht hvm hw hB hz1 hk1 hS1 => ?_)
  obtain ⟨hP1, hK1, hD1⟩ := hB
  rw [ht] at hP1
  obtain ⟨hP2, hD2⟩ := va_join hP hD isC isR hC hR hnR hdis hk1 hFc hP1 hD1
  exact kk u H1 locs1 hw hP2 hD2 hS1
theorem nwI (hx : p.tables.exec = Jvm.exec) (hb : c.code = cc) (harr : (Cond.arrayClass .int).before args s = true) (hK : va_K D vwCl (kTy k) s) (hP : va_P D vwCl ws H) (hD : va_D A ws) (hS : va_S A H0 H locs) (hA : ∀ q, H0.size ≤ q → A q) {i : Int32} (N : Nat) (hn : ¬ i < 0) (hN : i.toNatClampNeg = N) (hbytes : N * 4 ≤ 536870912) (hcells : cells + 1 ≤ R.cells) (hslots : slots + N ≤ R.slots) (hdg : decode cc pc = .ok (.newarray .int, 2))
    (kk : ∀ (q : Nat) (H1 : Heap), va_P D vwCl (ws ++ [(q, .inl (k 0, N, .inl (fun _ => 0)))]) H1 → va_D A (ws ++ [(q, .inl (k 0, N, .inl (fun _ => 0)))]) → va_S A H0 H1 locs → W p l e R s m args below meth c H1 locs (cells + 1) (slots + N) Q (F0 m (pc + 2) ls (.ref q :: rest))) : W p l e R s m args below meth c H locs cells slots Q (F0 m pc ls (.int i :: rest)) := by
  refine va_newa (atype := .int) (ty := .int) hx hb harr rfl hK hP hD hS hA (a0 := (N, .inl (fun _ => 0))) (fun cA => rfl) hn hN hbytes hcells hslots hdg (fun q cA H1 hK1 hP1 hD1 hS1 => ?_)
  have h1 : s.vm.findClass ("[" ++ FieldType.int.toString) = some cA := (hK1.2 3 (cA, .int) rfl).2
  have h2 : s.vm.findClass ("[" ++ FieldType.int.toString) = some (k 0) := (hK1.2 0 (k 0, .int) rfl).2
  have e1 : cA = k 0 := Option.some.inj (h1.symm.trans h2)
  subst e1
  exact kk q H1 hP1 hD1 hS1
theorem nwL (hx : p.tables.exec = Jvm.exec) (hb : c.code = cc) (harr : (Cond.arrayClass .long).before args s = true) (hK : va_K D vwCl (kTy k) s) (hP : va_P D vwCl ws H) (hD : va_D A ws) (hS : va_S A H0 H locs) (hA : ∀ q, H0.size ≤ q → A q) {i : Int32} (N : Nat) (hn : ¬ i < 0) (hN : i.toNatClampNeg = N) (hbytes : N * 8 ≤ 536870912) (hcells : cells + 1 ≤ R.cells) (hslots : slots + N ≤ R.slots) (hdg : decode cc pc = .ok (.newarray .long, 2))
    (kk : ∀ (q : Nat) (H1 : Heap), va_P D vwCl (ws ++ [(q, .inl (k 1, N, .inr (.inl (fun _ => 0))))]) H1 → va_D A (ws ++ [(q, .inl (k 1, N, .inr (.inl (fun _ => 0))))]) → va_S A H0 H1 locs → W p l e R s m args below meth c H1 locs (cells + 1) (slots + N) Q (F0 m (pc + 2) ls (.ref q :: rest))) : W p l e R s m args below meth c H locs cells slots Q (F0 m pc ls (.int i :: rest)) := by
  refine va_newa (atype := .long) (ty := .long) hx hb harr rfl hK hP hD hS hA (a0 := (N, .inr (.inl (fun _ => 0)))) (fun cA => rfl) hn hN hbytes hcells hslots hdg (fun q cA H1 hK1 hP1 hD1 hS1 => ?_)
  have h1 : s.vm.findClass ("[" ++ FieldType.long.toString) = some cA := (hK1.2 3 (cA, .long) rfl).2
  have h2 : s.vm.findClass ("[" ++ FieldType.long.toString) = some (k 1) := (hK1.2 1 (k 1, .long) rfl).2
  have e1 : cA = k 1 := Option.some.inj (h1.symm.trans h2)
  subst e1
  exact kk q H1 hP1 hD1 hS1
theorem nwQ (hx : p.tables.exec = Jvm.exec) (hb : c.code = cc) (hown : s.vm.findClass own = some m.cls) (hcl : (Cond.classLink own index shC).before args s = true) (hO : va_AO shC s) (hK : va_K D vwCl (kTy k) s) (hP : va_P D vwCl ws H) (hD : va_D A ws) (hS : va_S A H0 H locs) (hA : ∀ q, H0.size ≤ q → A q) {i : Int32} (N : Nat) (hn : ¬ i < 0) (hN : i.toNatClampNeg = N) (hbytes : N * 4 ≤ 536870912) (hcells : cells + 1 ≤ R.cells) (hslots : slots + N ≤ R.slots) (hdg : decode cc pc = .ok (.anewarray index, 3))
    (kk : ∀ (q : Nat) (H1 : Heap), va_P D vwCl (ws ++ [(q, .inl (k 2, N, .inr (.inr (.inr (.inr (fun _ => none))))))]) H1 → va_D A (ws ++ [(q, .inl (k 2, N, .inr (.inr (.inr (.inr (fun _ => none))))))]) → va_S A H0 H1 locs → W p l e R s m args below meth c H1 locs (cells + 1) (slots + N) Q (F0 m (pc + 3) ls (.ref q :: rest))) : W p l e R s m args below meth c H locs cells slots Q (F0 m pc ls (.int i :: rest)) := by
  refine va_newq hx hb hown hcl hO hK hP hD hS hA hn hN hbytes hcells hslots hdg (fun q cA H1 hK1 hP1 hD1 hS1 => ?_)
  obtain ⟨_, _, _, _, _, h1⟩ := (hK1.2 3 (cA, .object shC) rfl).2
  obtain ⟨_, _, _, _, _, h2⟩ := (hK1.2 2 (k 2, .object shC) rfl).2
  have e1 : cA = k 2 := Option.some.inj (h1.symm.trans h2)
  subst e1
  exact kk q H1 hP1 hD1 hS1
end CK
