/-! ===== a throw of an exception that is made there ===== -/
section IXT
variable {p : Program} {l : Launch} {e : Env} {R R' : Room} {s : State} {m : MethodId} {args : Array Value} {below : List Frame} {meth : Method} {c : Code} {T : State} {H : Heap} {locs : List Loc} {cells slots : Nat}
/-- the walk seen from here on -/
theorem ix_rebase (X : Stand p l e R s m args below meth c T locs cells slots) (hf : R'.frames ≤ R.frames) (hl : R'.locals ≤ R.locals) (hc : cells + R'.cells ≤ R.cells) (hs : slots + R'.slots ≤ R.slots) : Stand p l e R' (T.setFrames (.invoking m args :: below)) m args below meth c T [] 0 0 := by
  obtain ⟨g₀, hfr⟩ := X.frames_eq
  have hcur : T.cur < T.threads.size := State.cur_lt_of_frames hfr
  have hF : (T.setFrames (.invoking m args :: below)).frames = .invoking m args :: below := State.frames_setFrames _ hcur
  obtain ⟨t, ht, -⟩ := State.frames_cons hF
  obtain ⟨t2, ht2, -⟩ := State.frames_cons hfr
  have hback : (T.setFrames (.invoking m args :: below)).setFrames T.frames = T := by rw [State.setFrames_setFrames, State.setFrames_self ht2]
  refine ⟨X.admits, X.cas, X.clock, hF, ?_, ?_, X.method', X.code, X.here, X.tail, State.WarmedH.refl _, (State.stackLimits_setFrames ..).symm, (State.stackBytes_setFrames ..).symm, ?_⟩
  · have h := X.room
    obtain ⟨r1, r2, r3, r4⟩ := State.hasRoom_stack X.room
    have r5 := State.hasRoom_real X.room
    simp only [State.hasRoom, Bool.and_eq_true, decide_eq_true_eq] at h
    rw [State.localsInUse_invoking X.frames X.method X.code] at r3 r4 r5
    rw [X.frames, List.length_cons] at r1 r2
    have hU := State.localsInUse_invoking hF (meth := meth) (c := c) X.method' X.code
    simp only [State.hasRoom, Bool.and_eq_true, decide_eq_true_eq, hF, hU, List.length_cons, State.stackLimits_setFrames, State.stackBytes_setFrames, X.limits, X.bytes]
    have k1 := X.heapSize
    have k2 := X.used
    refine ⟨⟨⟨⟨by omega, by omega, by omega, by omega, by omega, h.1.1.1.2.2.2.2.2⟩, ?_⟩, ?_⟩, X.book⟩
    · have := h.1.1.2
      show T.heap.size + R'.cells ≤ _
      omega
    · have := h.1.2
      show T.slotsUsed + R'.slots ≤ _
      omega
  · have hh := X.hears
    have halike := X.warmed.alike
    unfold State.hears at hh ⊢
    split at hh
    · rw [State.code?_eq] at hh ⊢
      show ((T.vm.method? _).bind _).bind _ |>.isSome
      rw [halike.method?]
      exact hh
    · rfl
    · rfl
    · show (T.vm.method? m).any _ = true
      rw [halike.method?]
      exact hh
  · have h := (State.sameButNew.refl (T.setFrames (.invoking m args :: below)) ht).setFrames T.frames (State.cur_lt_of_frames hF)
    rw [hback] at h
    exact h
theorem ix_W_rebase {b : Nat} {Z Z' : Outcome → Heap → Nat → Nat → Prop} {g : JFrame} (hf : R'.frames ≤ R.frames) (hl : R'.locals ≤ R.locals) (hc : cells + R'.cells ≤ R.cells) (hs : slots + R'.slots ≤ R.slots)
    (k : ∀ T : State, T.heap = H → s.WarmedH T.vm → W p l e R' (T.setFrames (.invoking m args :: below)) m args below meth c H [] 0 0 (ix_Q below (T.setFrames (.invoking m args :: below)) b Z') g)
    (hZ : ∀ o Ht k' n', Z' o Ht k' n' → Z o Ht (cells + k') (slots + n')) (hL : ∀ q ∈ locs, b ≤ q.base) : W p l e R s m args below meth c H locs cells slots (ix_Q below s b Z) g := by
  intro T hT X
  have X0 := ix_rebase (R' := R') X hf hl hc hs
  obtain ⟨t, st, o, L, k', n', h1, h2, h3, h4, h5, h6⟩ := k T hT X.warmed T hT X0
  refine ⟨t, st, o, locs ++ L, cells + k', slots + n', h1, h2, State.WarmedH.trans X.warmed h3, ?_, ?_, hZ _ _ _ _ h6⟩
  · obtain ⟨e2, q2, q3, q4, q5, q6⟩ := h4
    have hB : T.sameButNew ({ t with vm := T.vm } : State) L k' n' := by
      refine ⟨?_, q2, q3, q4, q5, q6⟩
      rw [State.setFrames_setFrames] at e2
      exact e2
    exact X.same.trans (hB.setVm s.vm)
  · intro q hq
    rcases List.mem_append.mp hq with z | z
    · exact hL q z
    · exact h5 q z
end IXT
theorem ix_Zq_use {C n d : String} {A : Nat → Prop} {s : State} {args : Array Value} (h : va_Zq C n d A s s.heap) : (Cond.isRef (.static C n d)).before args s = true := by
  have ev : ∀ v, va_Z C n d v A s s.heap → (Term.static C n d).eval args s none [] s = some v := by
    intro v hz
    obtain ⟨cf, kf, fi, f, a, cell, h1, h2, h3, h4, h5, h6, h7, h8⟩ := hz
    simp [Term.eval, State.fieldNamed?, h1, h2, h4, h5, h6, h7]
  rcases h with h | ⟨t, h⟩
  · simp [Cond.before, Cond.holds, Cond.value, ev _ h]
  · simp [Cond.before, Cond.holds, Cond.value, ev _ h]
theorem ix_atoms_I {G : ix_G} {s : State} {args : Array Value} (hts : ix_Ws args s) (hx : ix_xt G s s.heap) : ∀ a ∈ Bundle.ownAtoms0 "DecimalBits" 212 ix_nI ["java/lang/RuntimeException", "java/lang/Exception"], a.before args s = true := by
  obtain ⟨-, -, a3, a4, a5, a6, a7, a8, a9, b1, b2⟩ := hx
  have z1 := ix_Zq_use (args := args) a8
  have z2 := ix_Zq_use (args := args) a9
  exact List.forall_mem_cons.mpr ⟨hts _ (ix_wa_mem (p := 128) rfl) rfl, List.forall_mem_cons.mpr ⟨hts _ (ix_wa_mem (p := 577) rfl) rfl, List.forall_mem_cons.mpr ⟨hts _ (ix_wa_mem (p := 586) rfl) rfl, List.forall_mem_cons.mpr ⟨hts _ (ix_wa_mem (p := 589) rfl) rfl, List.forall_mem_cons.mpr ⟨hts _ (ix_wa_mem (p := 592) rfl) rfl, List.forall_mem_cons.mpr ⟨hts _ (ix_wa_mem (p := 594) rfl) rfl, List.forall_mem_cons.mpr ⟨hts _ (ix_wa_mem (p := 578) rfl) rfl, List.forall_mem_cons.mpr ⟨hts _ (ix_wa_mem (p := 579) rfl) rfl, List.forall_mem_cons.mpr ⟨hts _ (ix_wa_mem (p := 148) rfl) rfl, List.forall_mem_cons.mpr ⟨hts _ (ix_wa_mem (p := 149) rfl) rfl, List.forall_mem_cons.mpr ⟨hts _ (ix_wa_mem (p := 580) rfl) rfl, List.forall_mem_cons.mpr ⟨hts _ (ix_wa_mem (p := 585) rfl) rfl, List.forall_mem_cons.mpr ⟨hts _ (ix_wa_mem (p := 590) rfl) rfl, List.forall_mem_cons.mpr ⟨hts _ (ix_wa_mem (p := 606) rfl) rfl, List.forall_mem_cons.mpr ⟨hts _ (ix_wa_mem (p := 567) rfl) rfl, List.forall_mem_cons.mpr ⟨hts _ (ix_wa_mem (p := 607) rfl) rfl, List.forall_mem_cons.mpr ⟨hts _ (ix_wa_mem (p := 569) rfl) rfl, List.forall_mem_cons.mpr ⟨hts _ (ix_wa_mem (p := 608) rfl) rfl, List.forall_mem_cons.mpr ⟨hts _ (ix_wa_mem (p := 571) rfl) rfl, List.forall_mem_cons.mpr ⟨hts _ (ix_wa_mem (p := 581) rfl) rfl, List.forall_mem_cons.mpr ⟨b1.use, List.forall_mem_cons.mpr ⟨hts _ (ix_wa_mem (p := 583) rfl) rfl, List.forall_mem_cons.mpr ⟨b2.use, List.forall_mem_cons.mpr ⟨hts _ (ix_wa_mem (p := 573) rfl) rfl, List.forall_mem_cons.mpr ⟨hts _ (ix_wa_mem (p := 596) rfl) rfl, List.forall_mem_cons.mpr ⟨hts _ (ix_wa_mem (p := 597) rfl) rfl, List.forall_mem_cons.mpr ⟨hts _ (ix_wa_mem (p := 598) rfl) rfl, List.forall_mem_cons.mpr ⟨hts _ (ix_wa_mem (p := 599) rfl) rfl, List.forall_mem_cons.mpr ⟨va_Nw.use rfl a5, List.forall_mem_cons.mpr ⟨hts _ (ix_wa_mem (p := 599) rfl) rfl, List.forall_mem_cons.mpr ⟨hts _ (ix_wa_mem (p := 600) rfl) rfl, List.forall_mem_cons.mpr ⟨hts _ (ix_wa_mem (p := 601) rfl) rfl, List.forall_mem_cons.mpr ⟨hts _ (ix_wa_mem (p := 602) rfl) rfl, List.forall_mem_cons.mpr ⟨va_Nw.use rfl a6, List.forall_mem_cons.mpr ⟨hts _ (ix_wa_mem (p := 602) rfl) rfl, List.forall_mem_cons.mpr ⟨hts _ (ix_wa_mem (p := 603) rfl) rfl, List.forall_mem_cons.mpr ⟨hts _ (ix_wa_mem (p := 604) rfl) rfl, List.forall_mem_cons.mpr ⟨hts _ (ix_wa_mem (p := 578) rfl) rfl, List.forall_mem_cons.mpr ⟨va_Nw.use rfl a7, List.forall_mem_cons.mpr ⟨hts _ (ix_wa_mem (p := 595) rfl) rfl, List.forall_mem_cons.mpr ⟨hts _ (ix_wa_mem (p := 556) rfl) rfl, List.forall_mem_cons.mpr ⟨va_Nw.use rfl a3, List.forall_mem_cons.mpr ⟨hts _ (ix_wa_mem (p := 564) rfl) rfl, List.forall_mem_cons.mpr ⟨hts _ (ix_wa_mem (p := 565) rfl) rfl, List.forall_mem_cons.mpr ⟨hts _ (ix_wa_mem (p := 566) rfl) rfl, List.forall_mem_cons.mpr ⟨hts _ (ix_wa_mem (p := 568) rfl) rfl, List.forall_mem_cons.mpr ⟨hts _ (ix_wa_mem (p := 570) rfl) rfl, List.forall_mem_cons.mpr ⟨hts _ (ix_wa_mem (p := 572) rfl) rfl, List.forall_mem_cons.mpr ⟨z1, List.forall_mem_cons.mpr ⟨z2, List.forall_mem_cons.mpr ⟨hts _ (ix_wa_mem (p := 576) rfl) rfl, List.forall_mem_cons.mpr ⟨hts _ (ix_wa_mem (p := 575) rfl) rfl, List.forall_mem_cons.mpr ⟨hts _ (ix_wa_mem (p := 574) rfl) rfl, fun _ h => absurd h List.not_mem_nil⟩⟩⟩⟩⟩⟩⟩⟩⟩⟩⟩⟩⟩⟩⟩⟩⟩⟩⟩⟩⟩⟩⟩⟩⟩⟩⟩⟩⟩⟩⟩⟩⟩⟩⟩⟩⟩⟩⟩⟩⟩⟩⟩⟩⟩⟩⟩⟩⟩⟩⟩⟩⟩
theorem ix_cl_I : Cond.classLink "DecimalBits" 210 ix_nI ∈ lw_tbl := ix_wa_mem (p := 555) rfl
theorem ix_in_I : Cond.instantiable ix_nI 6 ∈ lw_tbl ∧ Cond.initialized ix_nI ∈ lw_tbl := ⟨ix_wa_mem (p := 556) rfl, ix_wa_mem (p := 131) rfl⟩
theorem ix_atoms_A {G : ix_G} {s : State} {args : Array Value} (hts : ix_Ws args s) (hx : ix_xt G s s.heap) : ∀ a ∈ Bundle.ownAtoms0 "DecimalBits" 215 ix_nA ["java/lang/RuntimeException", "java/lang/Exception"], a.before args s = true := by
  obtain ⟨-, -, a3, a4, a5, a6, a7, a8, a9, b1, b2⟩ := hx
  have z1 := ix_Zq_use (args := args) a8
  have z2 := ix_Zq_use (args := args) a9
  exact List.forall_mem_cons.mpr ⟨hts _ (ix_wa_mem (p := 128) rfl) rfl, List.forall_mem_cons.mpr ⟨hts _ (ix_wa_mem (p := 577) rfl) rfl, List.forall_mem_cons.mpr ⟨hts _ (ix_wa_mem (p := 586) rfl) rfl, List.forall_mem_cons.mpr ⟨hts _ (ix_wa_mem (p := 589) rfl) rfl, List.forall_mem_cons.mpr ⟨hts _ (ix_wa_mem (p := 592) rfl) rfl, List.forall_mem_cons.mpr ⟨hts _ (ix_wa_mem (p := 594) rfl) rfl, List.forall_mem_cons.mpr ⟨hts _ (ix_wa_mem (p := 578) rfl) rfl, List.forall_mem_cons.mpr ⟨hts _ (ix_wa_mem (p := 579) rfl) rfl, List.forall_mem_cons.mpr ⟨hts _ (ix_wa_mem (p := 148) rfl) rfl, List.forall_mem_cons.mpr ⟨hts _ (ix_wa_mem (p := 149) rfl) rfl, List.forall_mem_cons.mpr ⟨hts _ (ix_wa_mem (p := 580) rfl) rfl, List.forall_mem_cons.mpr ⟨hts _ (ix_wa_mem (p := 585) rfl) rfl, List.forall_mem_cons.mpr ⟨hts _ (ix_wa_mem (p := 590) rfl) rfl, List.forall_mem_cons.mpr ⟨hts _ (ix_wa_mem (p := 606) rfl) rfl, List.forall_mem_cons.mpr ⟨hts _ (ix_wa_mem (p := 567) rfl) rfl, List.forall_mem_cons.mpr ⟨hts _ (ix_wa_mem (p := 607) rfl) rfl, List.forall_mem_cons.mpr ⟨hts _ (ix_wa_mem (p := 569) rfl) rfl, List.forall_mem_cons.mpr ⟨hts _ (ix_wa_mem (p := 608) rfl) rfl, List.forall_mem_cons.mpr ⟨hts _ (ix_wa_mem (p := 571) rfl) rfl, List.forall_mem_cons.mpr ⟨hts _ (ix_wa_mem (p := 581) rfl) rfl, List.forall_mem_cons.mpr ⟨b1.use, List.forall_mem_cons.mpr ⟨hts _ (ix_wa_mem (p := 583) rfl) rfl, List.forall_mem_cons.mpr ⟨b2.use, List.forall_mem_cons.mpr ⟨hts _ (ix_wa_mem (p := 573) rfl) rfl, List.forall_mem_cons.mpr ⟨hts _ (ix_wa_mem (p := 953) rfl) rfl, List.forall_mem_cons.mpr ⟨hts _ (ix_wa_mem (p := 954) rfl) rfl, List.forall_mem_cons.mpr ⟨hts _ (ix_wa_mem (p := 955) rfl) rfl, List.forall_mem_cons.mpr ⟨hts _ (ix_wa_mem (p := 599) rfl) rfl, List.forall_mem_cons.mpr ⟨va_Nw.use rfl a5, List.forall_mem_cons.mpr ⟨hts _ (ix_wa_mem (p := 599) rfl) rfl, List.forall_mem_cons.mpr ⟨hts _ (ix_wa_mem (p := 600) rfl) rfl, List.forall_mem_cons.mpr ⟨hts _ (ix_wa_mem (p := 601) rfl) rfl, List.forall_mem_cons.mpr ⟨hts _ (ix_wa_mem (p := 602) rfl) rfl, List.forall_mem_cons.mpr ⟨va_Nw.use rfl a6, List.forall_mem_cons.mpr ⟨hts _ (ix_wa_mem (p := 602) rfl) rfl, List.forall_mem_cons.mpr ⟨hts _ (ix_wa_mem (p := 603) rfl) rfl, List.forall_mem_cons.mpr ⟨hts _ (ix_wa_mem (p := 604) rfl) rfl, List.forall_mem_cons.mpr ⟨hts _ (ix_wa_mem (p := 578) rfl) rfl, List.forall_mem_cons.mpr ⟨va_Nw.use rfl a7, List.forall_mem_cons.mpr ⟨hts _ (ix_wa_mem (p := 952) rfl) rfl, List.forall_mem_cons.mpr ⟨hts _ (ix_wa_mem (p := 944) rfl) rfl, List.forall_mem_cons.mpr ⟨va_Nw.use rfl a4, List.forall_mem_cons.mpr ⟨hts _ (ix_wa_mem (p := 946) rfl) rfl, List.forall_mem_cons.mpr ⟨hts _ (ix_wa_mem (p := 588) rfl) rfl, List.forall_mem_cons.mpr ⟨hts _ (ix_wa_mem (p := 947) rfl) rfl, List.forall_mem_cons.mpr ⟨hts _ (ix_wa_mem (p := 948) rfl) rfl, List.forall_mem_cons.mpr ⟨hts _ (ix_wa_mem (p := 949) rfl) rfl, List.forall_mem_cons.mpr ⟨hts _ (ix_wa_mem (p := 950) rfl) rfl, List.forall_mem_cons.mpr ⟨z1, List.forall_mem_cons.mpr ⟨z2, List.forall_mem_cons.mpr ⟨hts _ (ix_wa_mem (p := 576) rfl) rfl, List.forall_mem_cons.mpr ⟨hts _ (ix_wa_mem (p := 575) rfl) rfl, List.forall_mem_cons.mpr ⟨hts _ (ix_wa_mem (p := 951) rfl) rfl, fun _ h => absurd h List.not_mem_nil⟩⟩⟩⟩⟩⟩⟩⟩⟩⟩⟩⟩⟩⟩⟩⟩⟩⟩⟩⟩⟩⟩⟩⟩⟩⟩⟩⟩⟩⟩⟩⟩⟩⟩⟩⟩⟩⟩⟩⟩⟩⟩⟩⟩⟩⟩⟩⟩⟩⟩⟩⟩⟩
theorem ix_cl_A : Cond.classLink "DecimalBits" 213 ix_nA ∈ lw_tbl := ix_wa_mem (p := 943) rfl
theorem ix_in_A : Cond.instantiable ix_nA 6 ∈ lw_tbl ∧ Cond.initialized ix_nA ∈ lw_tbl := ⟨ix_wa_mem (p := 944) rfl, ix_wa_mem (p := 137) rfl⟩
section IXU
variable {p : Program} {l : Launch} {e : Env} {R : Room} {s : State} {m : MethodId} {args : Array Value} {below : List Frame} {meth : Method} {c : Code} {H : Heap} {locs : List Loc} {cells slots : Nat}
theorem ix_throwAt {cc : ByteArray} {pc ic im b : Nat} {ls : Array Slot} {C : String} {Z : Outcome → Heap → Nat → Nat → Prop} (hexec : p.tables.exec = Jvm.exec) (hb : c.code = cc) (hown : s.vm.findClass "DecimalBits" = some m.cls) (hml : ls.size = c.maxLocals) (hlk : meth.locks = false) (hex : c.exceptionTable.toList = []) (htr : ∀ e : Env, l.admits e → e.platform.stackTraces = false)
    (d0 : decode cc pc = .ok (.new ic, 3)) (d3 : decode cc (pc + 3) = .ok (.dup, 1)) (d4 : decode cc (pc + 4) = .ok (.invokespecial im, 3)) (d7 : decode cc (pc + 7) = .ok (.athrow, 1))
    (hcl : (Cond.classLink "DecimalBits" ic C).before args s = true) (hins : (Cond.instantiable C 6).before args s = true) (hini : (Cond.initialized C).before args s = true) (hfit : Bundle.fit C = true) (hat : ∀ a ∈ Bundle.ownAtoms0 "DecimalBits" im C ["java/lang/RuntimeException", "java/lang/Exception"], a.before args s = true)
    (hfr : 6 ≤ R.frames) (hwd : 81 ≤ R.locals) (hcells : 1 ≤ R.cells) (hslots : 6 ≤ R.slots)
    (hZ : ∀ (Ht : Heap) (ce : Cell), (∀ (q : Nat) (x : Cell), s.heap[q]? = some x → Ht[q]? = some x) → Ht.size ≤ s.heap.size + 1 → Ht[s.heap.size]? = some ce → s.vm.findClass C = some ce.cls → ce.vm = .none → Z (.threw s.heap.size) Ht 1 6) :
    W p l e R s m args below meth c s.heap [] 0 0 (ix_Q below s b Z) (F0 m pc ls []) := by
  refine W.newc hexec hb hown hcl hins hini (g := F0 m pc ls []) rfl d0 (by omega) (by omega) fun cC kC f1 f2 f3 f4 => ?_
  refine lv_dup hexec hb d3 rfl ?_
  intro T hT X
  have hcellT : T.heap[s.heap.size]? = some (freshCell cC kC) := by rw [hT]; simp [freshCell]
  obtain ⟨U, st, hrun, hend, hW, hsame, ce, hce, hoc⟩ := X.ctorThrow0 hexec (htr e X.admits) (own := "DecimalBits") (cls := C) (names := ["java/lang/RuntimeException", "java/lang/Exception"]) (ic := im) hown hfit (by decide +kernel) hat (fun x hx => by cases hx) f1 f2 hcellT (Nat.le_refl _)
    (g := F0 m (pc + 3 + 1) ls [.ref s.heap.size, .ref s.heap.size]) rfl hml rfl rfl (rest := []) rfl (by rw [hb]; exact d4) (by rw [hb]; exact d7) (fun x hx => by rw [hex] at hx; cases hx) (by show 2 + 3 < R.frames; omega) (by show 2 * 0 + 1 + (13 * (2 + 1) + 41) ≤ R.locals; omega) hlk
  exact ⟨U, st, .threw s.heap.size, [], 1, 6, hrun, hend, hW, hsame, (fun q hq => by cases hq), hZ U.heap ce (fun q x hx => hsame.old_cell hx) hsame.2.2.1 hce hoc.cls hoc.vm⟩
end IXU
