/-! ===== the claim out of my machine's run ===== -/
def R_law : String := "DecimalBitsLaw"
def lw_P (b : Addr) (xs : List Int32) (args : Array Value) (s : State) : Prop := args = #[.ref b] ∧ s.IntsAt b xs ∧ xs.length ≤ 3584 ∧ (Jvm.Cond.and given_1 narrow_1).before args s = true
def lw_Q (_ : Array Value) (s : State) (o : Outcome) (t : State) : Prop := o = .returned (some (.int 1)) ∧ Framed s o t [] 601024 7293034
def lw_Z (below : List Frame) (a : Array Value) (s : State) : State → Prop := fun t => ∃ o, t.status = .running ∧ Ended t below o ∧ lw_Q a s o t
/-- what holds at the law's entry: the machine, the code, the tables' words (any of lw_tbl by 'hts w (by decide +kernel)'), the script of L ints xs at the cell b, what the Statement gives of the start (any of its parts by flat_of_before) -/
def lw_At (p : Program) (s : State) (m : MethodId) (meth : Method) (c : Code) (b L : Nat) (xs : Nat → Int32) : Prop :=
  p.tables.exec = Jvm.exec ∧ c.code = code ∧ meth.sig.returnType = ret ∧ c.maxLocals = 8 ∧ s.vm.findClass R_law = some m.cls ∧ (∀ w ∈ lw_tbl, w.before #[Value.ref b] s = true) ∧ va_X b L xs s s.heap ∧ b < s.heap.size ∧ meth.locks = false ∧ (Jvm.Cond.and given_1 narrow_1).before #[Value.ref b] s = true
/-- the end of my machine's run from the law's entry -/
def ix_Law (L : Nat) (xs : Nat → Int32) : Prop := ∃ (n : Nat) (h' : ix_H), ix_ev n 0 0 (ix_en [.ref 31] 8) [] (ix_h0 L xs) = some (.inl (some (.int 1)), h')
theorem ix_fr0 : ix_fr 0 ≤ 12 := by decide +kernel
theorem ix_wd0 : ix_wd 0 ≤ 458 := by decide +kernel
/-- from the law's entry to its end, out of my machine's run -/
theorem ix_begin {p : Program} {e : Env} {s : State} {m : MethodId} {below : List Frame} {meth : Method} {c : Code} (l : Launch) (htr : ∀ e : Env, l.admits e → e.platform.stackTraces = false) {b L : Nat} {xs : Nat → Int32} (hL : L ≤ 3584) (C0 : lw_At p s m meth c b L xs) (hnm : meth.name = "law") (hh : c.exceptionTable.toList = []) (hrun : ix_Law L xs) : W p l e room_1 s m #[Value.ref b] below meth c s.heap [] 0 0 (lw_Z below #[Value.ref b] s) (entryFrame m ([Value.ref b] : List Value).toArray 8) := by
  obtain ⟨n, h', hev⟩ := hrun
  obtain ⟨hexec, hcode, hret, hml, hown, hts, hX, hbl, hlk, hgv⟩ := C0
  obtain ⟨D, hD⟩ := ix_cls_kn hts
  obtain ⟨tys, hty, hta⟩ := ix_tys hts
  obtain ⟨tad, fmt, htad, hro⟩ := ix_ro0 D tys (by omega) hts hgv hX hbl
  have hI : ix_I (D, tys, s.heap.size, tad, fmt) (ix_l0 L xs) 0 p room_1 s m #[Value.ref b] meth c := by
    refine ⟨hexec, hcode, hml, hret, hlk, hnm, hown, fun w hw _ => hts w hw, ?_, ⟨hD, hta⟩, hty, hro, Nat.le_refl _, ix_fr0, ix_wd0⟩
    unfold ix_hb
    rw [hh]
    rfl
  have e0 : ([Value.ref 31] : List Value).map (ix_v (D, tys, s.heap.size, tad, fmt)) = [Value.ref b] := by
    show [Value.ref (tad 31)] = _
    rw [htad]
  have hl := ix_hl_entry (D, tys, s.heap.size, tad, fmt) [Value.ref 31] 8 (by decide)
  rw [e0] at hl
  have hw0 : ix_w (D, tys, s.heap.size, tad, fmt) (ix_h0 L xs) = [] := rfl
  have key := ix_sound l htr (D, tys, s.heap.size, tad, fmt) (ix_l0 L xs) n 0 0 _ _ _ _ _ hev p e room_1 s m #[Value.ref b] below meth c s.heap [] 0 0 _ 32 0 hI
    ⟨(by rw [hw0]; intro k q hq; cases hq), (by rw [hw0]; exact ⟨fun i j p q hq => (by cases hq), fun k q hq => (by cases hq)⟩), va_S.rf, Nat.le_refl _⟩ (fun r _ => rfl) rfl (Nat.le_refl _) rfl rfl (Nat.le_refl _) (by show ix_SM ≤ 0 + 7293034; decide) (by show (32 : Nat) ≤ 32 + 601024; decide) (by show (0 : Nat) ≤ 7293034; decide) hl
  rw [lg_entry_eq]
  refine ix_W_mono key fun t ht => ?_
  obtain ⟨o, L', k, n', h1, h2, h3, h4, h5, hz, -, -, -, -, -, -, hk, hn, hkC, hnC⟩ := ht
  obtain rfl : o = .returned (some (.int 1)) := hz
  have q1 : k ≤ 601024 := by
    have : h'.1 ≤ 32 + 601024 := hkC
    omega
  have q2 : n' ≤ 7293034 := by
    have : h'.2.1 ≤ 7293034 := hnC
    omega
  exact ⟨_, h1, h2, rfl, ⟨_, rfl⟩, h3, h4.weaken (fun y hy hlt => absurd (h5 y hy) (Nat.not_le.mpr hlt)) q1 q2⟩
theorem ix_htr {l : Launch} (hfl : l.flags = flags0) : ∀ e : Env, l.admits e → e.platform.stackTraces = false := by
  intro e ha
  have h := ha.2.2.2.2.1
  rw [h]
  show l.stackTraces = false
  unfold Launch.stackTraces
  rw [hfl]
  decide +kernel
set_option maxHeartbeats 4000000 in
theorem lw_walk (l : Launch) (hfl : l.flags = flags0) (hlaw : ∀ (L : Nat) (xs : Nat → Int32), L ≤ 3584 → ix_Law L xs) (b : Addr) (xs : List Int32) : MetFree l x (headSpec (Jvm.Cond.code x code maxLocals ret :: tables_1) room_1) (lw_P b xs) (fun _ _ _ _ _ => True) lw_Q := by
  refine MetFree.of_bodyS (code := code) (maxLocals := maxLocals) (ret := ret) (by decide) ?_ ?_
  · intro args s m h hn
    obtain ⟨meth, c, h1, h2, h3, h4, h5, h6, -, -⟩ := Cond.code_spec hn (atoms_spec (ws := Jvm.Cond.code x code maxLocals ret :: tables_1) h _ List.mem_cons_self)
    exact ⟨meth, c, h1, h2, h3, h4, h5, h6⟩
  · intro p e s m args below meth c s₁ B hml0 hP _
    obtain ⟨rfl, hx, hbd, hgv⟩ := hP
    obtain ⟨scr, harrAt, hlist, hof, hsmall⟩ := hx
    obtain ⟨hcb, hkn, -, -⟩ := State.arrayAt?_spec harrAt
    have hown : s.vm.findClass R_law = some m.cls := findClass_of_methodNamed B.named
    have hts0 : ∀ c ∈ (Jvm.Cond.code x code maxLocals ret :: tables_1), c.before #[Value.ref b] s = true := atoms_spec (ws := Jvm.Cond.code x code maxLocals ret :: tables_1) B.pre
    have hts : ∀ w ∈ lw_tbl, w.before #[Value.ref b] s = true := k2_hts_sels lw_privs (fun w hw => hts0 w (List.mem_cons_of_mem _ hw)) lw_privs_ok
    have hml : c.maxLocals = 8 := B.maxLocals_eq (hts0 _ List.mem_cons_self)
    have X₀ : Stand p l e room_1 s m #[Value.ref b] below meth c s₁ [] 0 0 := Stand.of_body B
    have hh0 : s₁.heap = s.heap := by rw [B.state]; rfl
    have hsz : scr.slots.size = xs.length := by rw [← Array.length_toList, hlist, List.length_map]
    have hval : ∀ j : Nat, j < xs.length → scr.slots[j]? = some (.int (xs.getD j 0)) := fun j hj => by
      rw [← Array.getElem?_toList, hlist]
      simp [hj]
    have hbl : b < s.heap.size := (Array.getElem?_eq_some_iff.mp hcb).1
    have hX : va_X b xs.length (fun j => xs.getD j 0) s s.heap := ⟨scr, hcb, hof, hkn, hsz, hval⟩
    have K : W p l e room_1 s m #[Value.ref b] below meth c s₁.heap [] 0 0 (lw_Z below #[Value.ref b] s) (entryFrame m ([Value.ref b] : List Value).toArray 8) := by
      rw [hh0]
      obtain ⟨meth', c', k1, k2, -, -, -, -, k7, -⟩ := Cond.code_spec B.named (hts0 _ List.mem_cons_self)
      obtain rfl : meth' = meth := Option.some.inj (k1.symm.trans B.method)
      have hcc : meth'.code = some c := by
        have hq := B.here.code
        rw [B.state] at hq
        have hm : (s.setFrames (.java (entryFrame m #[Value.ref b] maxLocals) :: below)).vm.method? m = some meth' := B.method
        rw [State.code?_eq, hm] at hq
        exact hq
      obtain rfl : c' = c := Option.some.inj (k2.symm.trans hcc)
      exact ix_begin l (ix_htr hfl) hbd ⟨B.exec, B.bytes, B.returns, hml, hown, hts, hX, hbl, B.notSynchronized, hgv⟩ (name_of_methodNamed B.named B.method).1 (by simpa using k7) (hlaw _ _ hbd)
    obtain ⟨t, a1, o, b1, b2, b3⟩ := K s₁ rfl X₀
    exact ⟨t, o, a1, b1, b2, b3⟩
theorem lw_pre_spec {args : Array Value} {s : State} (h : (Jvm.Cond.and given_1 narrow_1).before args s = true) (hr : rest_1_c.before args s = true) : ∃ (b : Addr) (xs : List Int32), lw_P b xs args s := by
  have hs := flat_of_before _ h
  have hq := flat_of_before _ hr
  have hc : (Cond.count 1).before args s = true := hs _ (by decide +kernel)
  have harr : (Cond.arrayOf (.arg 0) .int).before args s = true := hs _ (by decide +kernel)
  have hle : (Cond.le (.length (.arg 0)) (.int 3584)).before args s = true := hs _ (by decide +kernel)
  have hlen : (Cond.isInt (.length (.arg 0))).before args s = true := hq _ (by decide +kernel)
  have hall : (Cond.all (.arg 0) (.isInt (.elem (.arg 0) (.index 0)))).before args s = true := hq _ (by decide +kernel)
  obtain ⟨b, xs, hb, hx⟩ := State.ints_of_pre rfl harr hlen hall
  have hsm : xs.length < 2 ^ 31 := hx.choose_spec.2.2.2
  have hev : (Term.length (.arg 0)).eval args s none [] s = some (.int xs.length.toInt32) := hx.length_eval hb
  have hv := Cond.le_ints hev (show (Term.int 3584).eval args s none [] s = some (.int 3584) from rfl)
  have hd : xs.length.toInt32 ≤ 3584 := by
    simpa [Cond.before, Cond.holds, hv] using hle
  have hN : xs.length ≤ 3584 := (Int32.ofNat_le_ofNat hsm (by decide)).mp (show Int32.ofNat xs.length ≤ Int32.ofNat 3584 from hd)
  exact ⟨b, xs, Cond.one_arg hc (show args[0]? = some (.ref b) from hb), hx, hN, h⟩
theorem lw_comes (l : Launch) (hfl : l.flags = flags0) (hlaw : ∀ (L : Nat) (xs : Nat → Int32), L ≤ 3584 → ix_Law L xs) : Comes l x (Jvm.Cond.code x code maxLocals ret :: tables_1) room_1 (fun tb e args s => Calls_1 tb e args s ∧ rest_1 tb e args s ∧ Pre_1 tb e args s)
    (fun _ _ args s o t => lw_Q args s o t) := by
  intro p e ha hc hk s m args below hf hfit hheap happ hpre
  obtain ⟨b, xs, hP⟩ := lw_pre_spec hpre.2.2 hpre.2.1
  obtain ⟨k, o, h1, h2, h3, hQ⟩ := lw_walk l hfl hlaw b xs p e ha hc hk s m args below hf ((Spec.applies_iff_loose hf).mp happ).1 hP trivial
  exact ⟨k, o, h1, h2, h3, hQ⟩
theorem lw_frame {s t : State} {o : Outcome} {args : Array Value} (h : Framed s o t [] 601024 7293034) :
    Framed s o t (fieldLocs frame_1_writes args s ++ arrayLocs frame_1_arrays args s ++ staticLocs frame_1_statics s) 601024 7293034 := h
theorem lw_limb (hlaw : ∀ (L : Nat) (xs : Nat → Int32), L ≤ 3584 → ix_Law L xs) (L : Cond) (hL : ∀ (args : Array Value) (s t : State), L.after args s (.returned (some (.int 1))) t = true) :
    ArmFor flags0 classFile x code maxLocals ret World_1 tables_1 room_1 Calls_1 rest_1 Pre_1
      (fun tb e a s o t => postC L tb e a s o t ∧ Framed s o t (fieldLocs frame_1_writes a s ++ arrayLocs frame_1_arrays a s ++ staticLocs frame_1_statics s) 601024 7293034) := by
  intro l hfl _ _ p e ha hc hk s m args below hf hfit hheap happ hpre
  obtain ⟨k, o, h1, h2, h3, rfl, hF⟩ := lw_comes l hfl hlaw p e ha hc hk s m args below hf hfit hheap happ hpre
  exact ⟨k, _, h1, h2, h3, hL args s _, lw_frame hF⟩
theorem ix_claims (hlaw : ∀ (L : Nat) (xs : Nat → Int32), L ≤ 3584 → ix_Law L xs) : Claimed_1_1 ∧ Claimed_1_2 := ⟨lw_limb hlaw limb_1_1 (fun args s t => by simp [limb_1_1, Cond.after, Cond.holds, Cond.value]), lw_limb hlaw limb_1_2 (fun args s t => Cond.after_iff.mpr (by
  first | (rw [show limb_1_2 = Cond.eq .result (.int 1) from rfl, Cond.eq_ints (x := 1) (y := 1) rfl rfl]; simp; done) | (simp [limb_1_2, Cond.value, Term.eval]; done)))⟩
