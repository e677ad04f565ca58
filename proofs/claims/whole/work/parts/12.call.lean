/-! ===== a callee walked inside its caller: it returns or throws ===== -/
/-- a method's end, however it ends -/
def ix_Q (below : List Frame) (s : State) (b : Nat) (Z : Outcome → Heap → Nat → Nat → Prop) : State → Prop := fun t =>
  ∃ (o : Outcome) (L : List Loc) (k n : Nat), t.status = .running ∧ Ended t below o ∧ s.WarmedH t.vm ∧ s.sameButNew ({ t with vm := s.vm } : State) L k n ∧ (∀ q ∈ L, b ≤ q.base) ∧ Z o t.heap k n
theorem ix_weaken {tb : Tables} {e : Env} {mid below : List Frame} {a b : State} (h : Steps tb e (mid ++ below) a b) : Steps tb e below a b := by
  obtain ⟨n, hn, w⟩ := h
  exact ⟨n, hn, fun k hk => (w k hk).weaken⟩
section IXC
variable {p : Program} {l : Launch} {e : Env} {R : Room} {s : State} {m : MethodId} {args : Array Value} {below : List Frame} {meth : Method} {c : Code} {T : State} {locs : List Loc} {cells slots : Nat}
def ix_nx (T : State) (g : JFrame) (o : Outcome) : State := match o with
  | .returned v => T.setTop { g with pc := g.pc + 3, stack := v.toList ++ g.stack }
  | .threw x => (T.setTop g).pushFrame (.throwing x)
theorem ix_out (X : Stand p l e R s m args below meth c T locs cells slots) {g : JFrame} (hg : g.method = m) (hsize : g.locals.size = c.maxLocals) {ig : Instr} (hdg : decode c.code g.pc = .ok (ig, 3))
    {mk : MethodId} {methk : Method} {ck : Code} (a : Array Value) {R' : Room} (hmk : T.vm.method? mk = some methk) (hck : methk.code = some ck) (hlk : methk.locks = false) (hpk : T.plainMethod mk)
    (hframes : R'.frames + 1 ≤ R.frames) (hlocals : 2 * g.monitorRoom + (g.stack.map fun v => v.category).sum + (ck.maxLocals + 11) + R'.locals ≤ R.locals) (hcells : cells + R'.cells ≤ R.cells) (hslots : slots + R'.slots ≤ R.slots)
    {b : Nat} {Z : Outcome → Heap → Nat → Nat → Prop} (body : W p l e R' (T.calling g mk a) mk a (.java g :: below) methk ck T.heap [] 0 0 (ix_Q (.java g :: below) (T.calling g mk a) b Z) (entryFrame mk a ck.maxLocals)) :
    ∃ (o : Outcome) (T' : State) (L : List Loc) (k n : Nat), Stand p l e R s m args below meth c T' (locs ++ L) (cells + k) (slots + n) ∧ (∀ q ∈ L, b ≤ q.base) ∧ Z o T'.heap k n ∧
      ∀ target, Steps p.tables e below (ix_nx T' g o) target → ∀ acts, Steps p.tables e below (doInvoke e (T.setTop g) acts mk a).1 target := by
  obtain ⟨Y, hin⟩ := X.into hg hsize hdg a hmk hck hlk hpk hframes hlocals hcells hslots
  obtain ⟨t, st, o, L, k, n, hrun, hend, hW, hsame, hL, hZ⟩ := body _ (by rfl) Y
  cases o with
  | returned v =>
    obtain ⟨T', X', hW', hB', ht⟩ := X.outOf hg hdg hend hW hsame
    refine ⟨.returned v, T', L, k, n, X', hL, ?_, fun target h acts => ?_⟩
    · have h1 : t.heap = T'.heap := by rw [ht]; rfl
      rw [← h1]; exact hZ
    · rw [hin acts]
      refine Steps.trans (ix_weaken (mid := [.java g]) st) ?_
      rw [ht]
      exact h
  | threw x =>
    obtain ⟨T', X', hW', hB', ht⟩ := X.outOfThrown hg hend hW hsame
    refine ⟨.threw x, T', L, k, n, X', hL, ?_, fun target h acts => ?_⟩
    · have h1 : t.heap = T'.heap := by rw [ht]; exact Stand.throwing_heap T' g x
      rw [← h1]; exact hZ
    · rw [hin acts]
      refine Steps.trans (ix_weaken (mid := [.java g]) st) ?_
      rw [ht]
      exact h
end IXC
section IXD
variable {p : Program} {l : Launch} {e : Env} {R : Room} {s : State} {m : MethodId} {args : Array Value} {below : List Frame} {meth : Method} {c : Code} {H : Heap} {locs : List Loc} {cells slots : Nat} {Q : State → Prop}
/-- an exception flies over this method's frame -/
def ix_WT (p : Program) (l : Launch) (e : Env) (R : Room) (s : State) (m : MethodId) (args : Array Value) (below : List Frame) (meth : Method) (c : Code) (H : Heap) (locs : List Loc) (cells slots : Nat) (Q : State → Prop) (g : JFrame) (x : Addr) : Prop :=
  ∀ T : State, T.heap = H → Stand p l e R s m args below meth c T locs cells slots → ∃ t, Steps p.tables e below ((T.setTop g).pushFrame (.throwing x)) t ∧ Q t
/-- what an invoking instruction does, up to the callee -/
def ix_Inv (p : Program) (l : Launch) (e : Env) (R : Room) (s : State) (m : MethodId) (args : Array Value) (below : List Frame) (meth : Method) (c : Code) (H : Heap) (locs : List Loc) (cells slots : Nat) (g : JFrame) (rest : List Value) (mk : MethodId) (a : Array Value) : Prop :=
  ∀ T : State, T.heap = H → Stand p l e R s m args below meth c T locs cells slots → ∃ vm₁, Stand p l e R s m args below meth c (T.setVm vm₁) locs cells slots ∧
    ∀ target, (∀ acts, Steps p.tables e below (doInvoke e ((T.setVm vm₁).setTop { g with stack := rest }) acts mk a).1 target) → Steps p.tables e below (T.setTop g) target
theorem ix_W_call {g : JFrame} {rest : List Value} {mk : MethodId} {a : Array Value} (hg : g.method = m) (hsize : g.locals.size = c.maxLocals) {ig : Instr} (hdg : decode c.code g.pc = .ok (ig, 3))
    (inv : ix_Inv p l e R s m args below meth c H locs cells slots g rest mk a)
    {methk : Method} {ck : Code} {R' : Room} (hmk : s.vm.method? mk = some methk) (hck : methk.code = some ck) (hlk : methk.locks = false) (hpk : ∀ T : State, s.WarmedH T.vm → T.plainMethod mk)
    (hframes : R'.frames + 1 ≤ R.frames) (hlocals : 2 * g.monitorRoom + (rest.map fun v => v.category).sum + (ck.maxLocals + 11) + R'.locals ≤ R.locals) (hcells : cells + R'.cells ≤ R.cells) (hslots : slots + R'.slots ≤ R.slots)
    {b : Nat} {Z : Outcome → Heap → Nat → Nat → Prop}
    (body : ∀ T : State, T.heap = H → s.WarmedH T.vm → ∀ g' : JFrame, W p l e R' (T.calling g' mk a) mk a (.java g' :: below) methk ck T.heap [] 0 0 (ix_Q (.java g' :: below) (T.calling g' mk a) b Z) (entryFrame mk a ck.maxLocals))
    (kR : ∀ (v : Option Value) (H' : Heap) (L : List Loc) (k n : Nat), Z (.returned v) H' k n → (∀ q ∈ L, b ≤ q.base) → W p l e R s m args below meth c H' (locs ++ L) (cells + k) (slots + n) Q { g with pc := g.pc + 3, stack := v.toList ++ rest })
    (kT : ∀ (x : Addr) (H' : Heap) (L : List Loc) (k n : Nat), Z (.threw x) H' k n → (∀ q ∈ L, b ≤ q.base) → ix_WT p l e R s m args below meth c H' (locs ++ L) (cells + k) (slots + n) Q { g with stack := rest } x) :
    W p l e R s m args below meth c H locs cells slots Q g := by
  intro T hT X
  obtain ⟨vm₁, X₁, st₁⟩ := inv T hT X
  have hm₁ : (T.setVm vm₁).vm.method? mk = some methk := by rw [X₁.warmed.alike.method?]; exact hmk
  obtain ⟨o, T', L, k, n, X', hL, hZ, st⟩ := ix_out X₁ (g := { g with stack := rest }) hg hsize hdg a hm₁ hck hlk (hpk _ X₁.warmed) hframes hlocals hcells hslots (body (T.setVm vm₁) hT X₁.warmed _)
  cases o with
  | returned v =>
    obtain ⟨t, a1, b1⟩ := kR v T'.heap L k n hZ hL T' rfl X'
    exact ⟨t, st₁ _ fun acts => st _ a1 acts, b1⟩
  | threw x =>
    obtain ⟨t, a1, b1⟩ := kT x T'.heap L k n hZ hL T' rfl X'
    exact ⟨t, st₁ _ fun acts => st _ a1 acts, b1⟩
/-- no handler here: the method throws too -/
theorem ix_WT_out {g : JFrame} {x : Addr} {b : Nat} {Z : Outcome → Heap → Nat → Nat → Prop} (hg : g.method = m) (hlocked : g.locked = none) (hentered : g.entered = []) (hout : ∀ q ∈ c.exceptionTable.toList, covers q g.pc = false) (hlk : meth.locks = false)
    (hL : ∀ q ∈ locs, b ≤ q.base) (hZ : Z (.threw x) H cells slots) : ix_WT p l e R s m args below meth c H locs cells slots (ix_Q below s b Z) g x := by
  intro T hT X
  obtain ⟨h1, h2, h3, h4, h5⟩ := X.leaveThrown x hg hlocked hentered hout hlk
  exact ⟨_, h1, .threw x, locs, cells, slots, h2, h3, h4, h5, hL, by rw [show (T.setFrames (.throwing x :: below)).heap = H from hT]; exact hZ⟩
/-- a handler here -/
theorem ix_WT_catch {g : JFrame} {x : Addr} {hpc : Nat} (hg : g.method = m) (hfind : ∀ T : State, T.heap = H → s.WarmedH T.vm → T.vm.method? m = some meth → Finds e ((T.setTop g).pushFrame (.throwing x)) g x (.found hpc))
    (k : W p l e R s m args below meth c H locs cells slots Q { g with pc := hpc, stack := [.ref x] }) : ix_WT p l e R s m args below meth c H locs cells slots Q g x := by
  intro T hT X
  obtain ⟨t, a1, b1⟩ := k T hT X
  exact ⟨t, X.catchAt x hg (hfind T hT X.warmed X.method') a1, b1⟩
theorem ix_W_mono {Q' : State → Prop} {g : JFrame} (h : W p l e R s m args below meth c H locs cells slots Q g) (hq : ∀ t, Q t → Q' t) : W p l e R s m args below meth c H locs cells slots Q' g := by
  intro T hT X
  obtain ⟨t, a1, b1⟩ := h T hT X
  exact ⟨t, a1, hq t b1⟩
/-- from a kit's end to mine -/
theorem ix_MQ_Q {b : Nat} {o₀ : Outcome} {Z : Outcome → Heap → Nat → Nat → Prop} (hZ : Z o₀ H cells slots) (t : State) (h : MQ below (fun _ _ o t => o = o₀ ∧ t.heap = H) args s cells slots (fun q => b ≤ q) t) : ix_Q below s b Z t := by
  obtain ⟨o, h1, h2, ⟨rfl, h3⟩, L, ⟨-, h4, h5⟩, h6⟩ := h
  exact ⟨o, L, cells, slots, h1, h2, h4, h5, h6, by rw [h3]; exact hZ⟩
variable {cc : ByteArray} {pc : Nat} {ls : Array Slot} {b : Nat} {Z : Outcome → Heap → Nat → Nat → Prop}
theorem ix_ret_i (hexec : p.tables.exec = Jvm.exec) (hb : c.code = cc) {ty : FieldType} (hr : meth.sig.returnType = some ty) (hlk : meth.locks = false) {v : Int32} (hn : narrow ty (.int v) = .int v) (hL : ∀ q ∈ locs, b ≤ q.base) (hZ : Z (.returned (some (.int v))) H cells slots) (hd : decode cc pc = .ok (.ireturn, 1)) : W p l e R s m args below meth c H locs cells slots (ix_Q below s b Z) (F0 m pc ls [.int v]) :=
  ix_W_mono (W.zret (Qc := fun _ _ o t => o = .returned (some (.int v)) ∧ t.heap = H) (free := fun q => b ≤ q) hexec hb hr hn (fun t ht _ => ⟨rfl, ht⟩) hL hd hlk) (ix_MQ_Q hZ)
theorem ix_ret_l (hexec : p.tables.exec = Jvm.exec) (hb : c.code = cc) (hr : meth.sig.returnType = some .long) (hlk : meth.locks = false) {v : Int64} (hL : ∀ q ∈ locs, b ≤ q.base) (hZ : Z (.returned (some (.long v))) H cells slots) (hd : decode cc pc = .ok (.lreturn, 1)) : W p l e R s m args below meth c H locs cells slots (ix_Q below s b Z) (F0 m pc ls [.long v]) :=
  ix_W_mono (W.lret (Qc := fun _ _ o t => o = .returned (some (.long v)) ∧ t.heap = H) (free := fun q => b ≤ q) hexec hb hr (fun t ht _ => ⟨rfl, ht⟩) hL hd hlk) (ix_MQ_Q hZ)
theorem ix_ret_a (hexec : p.tables.exec = Jvm.exec) (hb : c.code = cc) {ty : FieldType} (hr : meth.sig.returnType = some ty) (hty : (∃ n, ty = .object n) ∨ ∃ t, ty = .array t) (hlk : meth.locks = false) {v : Nat} (hL : ∀ q ∈ locs, b ≤ q.base) (hZ : Z (.returned (some (.ref v))) H cells slots) (hd : decode cc pc = .ok (.areturn, 1)) : W p l e R s m args below meth c H locs cells slots (ix_Q below s b Z) (F0 m pc ls [.ref v]) :=
  ix_W_mono (W.aret (Qc := fun _ _ o t => o = .returned (some (.ref v)) ∧ t.heap = H) (free := fun q => b ≤ q) hexec hb hr hty (Or.inr ⟨v, rfl⟩) (fun t ht _ => ⟨rfl, ht⟩) hL hd hlk) (ix_MQ_Q hZ)
theorem ix_ret_v (hexec : p.tables.exec = Jvm.exec) (hb : c.code = cc) (hr : meth.sig.returnType = none) (hlk : meth.locks = false) (hL : ∀ q ∈ locs, b ≤ q.base) (hZ : Z (.returned none) H cells slots) (hd : decode cc pc = .ok (.return_, 1)) : W p l e R s m args below meth c H locs cells slots (ix_Q below s b Z) (F0 m pc ls []) :=
  ix_W_mono (W.vret (Qc := fun _ _ o t => o = .returned none ∧ t.heap = H) (free := fun q => b ≤ q) hexec hb hr (fun t ht _ => ⟨rfl, ht⟩) hL hd hlk) (ix_MQ_Q hZ)
end IXD
/-! what the invoking instructions do -/
section IXE
variable {p : Program} {l : Launch} {e : Env} {R : Room} {s : State} {m : MethodId} {args : Array Value} {below : List Frame} {meth : Method} {c : Code} {H : Heap} {locs : List Loc} {cells slots : Nat}
theorem ix_inv_s (hexec : p.tables.exec = Jvm.exec) {own : String} {index : Nat} {y : MethodName} (hown : s.vm.findClass own = some m.cls) (hlink : (Cond.methodLink own index y).before args s = true ∨ ∃ host, (Cond.methodLinkNest own index y host).before args s = true) (hstat : (Cond.static y).before args s = true) (hinit : (Cond.initialized y.cls).before args s = true)
    {mk : MethodId} {methk : Method} (hn : s.methodNamed? y = some mk) (hm : s.vm.method? mk = some methk) (hy : y.cls ≠ "java/lang/invoke/MethodHandle" ∧ y.cls ≠ "java/lang/invoke/VarHandle")
    {g : JFrame} (hg : g.method = m) {As rest : List Value} (hlen : As.length = methk.sig.parameters.length) (hstack : g.stack = As.reverse ++ rest) (hdg : decode c.code g.pc = .ok (.invokestatic index, 3)) :
    ix_Inv p l e R s m args below meth c H locs cells slots g rest mk As.toArray := by
  intro T hT X
  have hstatic : methk.isStatic = true := Cond.static_spec hn hm hstat
  obtain ⟨kP, hkP, -⟩ := className_of_methodNamed hn
  have hinitP : kP.init = .initialized := Cond.initialized_spec (findClass_of_methodNamed hn) hkP hinit
  rcases hlink with hlink | ⟨host, hlink⟩
  · exact X.invokestatic hexec hown hlink hn hm hstatic hkP hinitP hy hg hlen hstack hdg
  · exact X.invokestaticNest hexec hown hlink hn hm hstatic hkP hinitP hy hg hlen hstack hdg
theorem ix_inv_v (hexec : p.tables.exec = Jvm.exec) {own C : String} {index : Nat} {y : MethodName} (hown : s.vm.findClass own = some m.cls) (hlink : (Cond.methodLink own index y).before args s = true ∨ ∃ host, (Cond.methodLinkNest own index y host).before args s = true) (hinst : (Cond.instanceMethod y).before args s = true) (hsel : (Cond.selects C y y).before args s = true)
    {mk : MethodId} {methk : Method} (hn : s.methodNamed? y = some mk) (hm : s.vm.method? mk = some methk) (hy : y.cls ≠ "java/lang/invoke/MethodHandle" ∧ y.cls ≠ "java/lang/invoke/VarHandle")
    {b : Addr} {cellB : Cell} (hcell : H[b]? = some cellB) (hobj : cellB.vm.isStatics = false) (hcls : s.vm.findClass C = some cellB.cls)
    {g : JFrame} (hg : g.method = m) {As rest : List Value} (hlen : As.length = methk.sig.parameters.length) (hstack : g.stack = As.reverse ++ .ref b :: rest) (hdg : decode c.code g.pc = .ok (.invokevirtual index, 3)) :
    ix_Inv p l e R s m args below meth c H locs cells slots g rest mk (Value.ref b :: As).toArray := by
  intro T hT X
  obtain ⟨mk', methM, hnamed, hmethM, hstM, habM⟩ := Cond.instanceMethod_spec hinst
  cases hn.symm.trans hnamed
  cases hm.symm.trans hmethM
  obtain ⟨c2, r2, m2, q1, q2, q3, q4, kP, hkP, hkPi⟩ := Cond.selects_spec hsel
  cases hcls.symm.trans q1
  cases (State.methodFound?_of_named hn hy).symm.trans q2
  cases hn.symm.trans q3
  have hselP : selectMethod e.platform s.vm cellB.cls mk = .method mk := by rw [Launch.admits_selectMethod X.admits]; exact q4
  rcases hlink with hlink | ⟨host, hlink⟩
  · exact X.invokevirtual hexec hown hlink hn hm hstM hkP hkPi hy (a := b) (cell := cellB) (by rw [hT]; exact hcell) (fun z h => by rw [h] at hobj; cases hobj) hselP hm habM hkP hkPi (g := g) hg (argsL := As) (rest := rest) hlen hstack hdg
  · exact X.invokevirtualNest hexec hown hlink hn hm hstM hkP hkPi hy (a := b) (cell := cellB) (by rw [hT]; exact hcell) (fun z h => by rw [h] at hobj; cases hobj) hselP hm habM hkP hkPi (g := g) hg (argsL := As) (rest := rest) hlen hstack hdg
theorem ix_inv_i (hexec : p.tables.exec = Jvm.exec) {own : String} {index : Nat} {y : MethodName} (hown : s.vm.findClass own = some m.cls) (hy1 : y.name = "<init>") (hlink : (Cond.methodLink own index y).before args s = true ∨ ∃ host, (Cond.methodLinkNest own index y host).before args s = true) (hinst : (Cond.instanceMethod y).before args s = true)
    {bytes : ByteArray} {maxL : Nat} (hcode : (Cond.code y bytes maxL none).before args s = true) {mk : MethodId} (hn : s.methodNamed? y = some mk) (hy : y.cls ≠ "java/lang/invoke/MethodHandle" ∧ y.cls ≠ "java/lang/invoke/VarHandle")
    {g : JFrame} (hg : g.method = m) {b : Addr} {As rest : List Value} (hlen : ∀ sig, parseMethodDescriptor y.desc = some sig → As.length = sig.parameters.length) (hstack : g.stack = As.reverse ++ .ref b :: rest) (hdg : decode c.code g.pc = .ok (.invokespecial index, 3)) :
    ix_Inv p l e R s m args below meth c H locs cells slots g rest mk (Value.ref b :: As).toArray := by
  intro T hT X
  subst hg
  have hpl : e.platform.magicAccessors = ({} : Platform).magicAccessors := by rw [X.admits.platform]
  rcases hlink with hlink | ⟨host, hlink⟩
  · obtain ⟨mk', methM, cM, kP, vm₁, hnamed, -, -, -, -, -, -, -, hW₁, hstep₁⟩ := Steps.initColdArgs (e := e) X.here hexec X.warmed hpl hown hy1 hy hlink hinst hcode (f := g) rfl hlen hstack hdg
    cases hn.symm.trans hnamed
    exact ⟨vm₁, X.noted hW₁, hstep₁⟩
  · obtain ⟨mk', methM, cM, kP, vm₁, hnamed, -, -, -, -, -, -, -, hW₁, hstep₁⟩ := Steps.initColdArgsNest (e := e) X.here hexec X.warmed hpl hown hy1 hy hlink hinst hcode (f := g) rfl hlen hstack hdg
    cases hn.symm.trans hnamed
    exact ⟨vm₁, X.noted hW₁, hstep₁⟩
end IXE
