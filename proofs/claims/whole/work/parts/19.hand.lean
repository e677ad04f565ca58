/-! ===== handlers, and the throw, for the run ===== -/
theorem ix_hd_nil {mi pc ci : Nat} (h : ix_hd mi pc ci = some none) : ix_hh mi = [] := by
  unfold ix_hd at h
  split at h
  · next z => exact z
  · next l z =>
    cases hq : ix_hs (ix_o mi) pc ci (ix_hh mi) with
    | none => rw [hq] at h; cases h
    | some q => rw [hq] at h; cases h
theorem ix_hb_nil {mi : Nat} {c : Code} (h : ix_hb mi c) (hh : ix_hh mi = []) : c.exceptionTable.toList = [] := by
  unfold ix_hb at h
  rw [hh] at h
  exact List.map_eq_nil_iff.mp h
theorem ix_hd_none {mi pc ci : Nat} {c : Code} (h : ix_hd mi pc ci = some none) (hb : ix_hb mi c) (pc' : Nat) : ∀ q ∈ c.exceptionTable.toList, covers q pc' = false := by
  rw [ix_hb_nil hb (ix_hd_nil h)]
  intro q hq
  cases hq
theorem ix_hd_hs {mi pc ci q : Nat} (h : ix_hd mi pc ci = some (some q)) : ix_hs (ix_o mi) pc ci (ix_hh mi) = some q := by
  unfold ix_hd at h
  split at h
  · cases h
  · cases hq : ix_hs (ix_o mi) pc ci (ix_hh mi) with
    | none => rw [hq] at h; cases h
    | some z => rw [hq] at h; cases h; rfl
theorem ix_ct_11 {o idx ci : Nat} (h : ix_ct o idx = some ci) : (ci = 11 ∨ ci = 12) ∧ idx ≠ 0 := by
  have key : ((List.range 20).all fun o => (ix_jX o).all fun e => (Nat.beq e.2.1 11 || Nat.beq e.2.1 12) && !Nat.beq e.1 0) = true := by decide +kernel
  unfold ix_ct at h
  cases hb : Nat.blt o ix_NO with
  | false => rw [hb] at h; cases h
  | true =>
    rw [hb] at h
    have ho : o < 20 := Nat.le_of_ble_eq_true hb
    cases hf : ((ix_jX o).find? fun e => Nat.beq e.1 idx) with
    | none => simp [hf] at h
    | some e =>
      simp only [hf, cond_true, Option.map_some, Option.some.injEq] at h
      subst h
      obtain ⟨hm, rfl⟩ := ix_fnd hf
      have h2 := List.all_eq_true.mp (List.all_eq_true.mp key o (List.mem_range.mpr ho)) e hm
      simp only [Bool.and_eq_true, Bool.or_eq_true] at h2
      refine ⟨h2.1.elim (fun z => Or.inl (Nat.eq_of_beq_eq_true z)) (fun z => Or.inr (Nat.eq_of_beq_eq_true z)), fun z => ?_⟩
      rw [z] at h2
      exact absurd h2.2 (by decide)
section IXV
variable {p : Program} {l : Launch} {e : Env} {R : Room} {s : State} {m : MethodId} {args : Array Value} {below : List Frame} {meth : Method} {c : Code} {H : Heap} {locs : List Loc} {cells slots : Nat} {Q : State → Prop}
theorem ix_WT_cold {g : JFrame} {x : Addr} {hpc : Nat} (hg : g.method = m) (hfind : ∀ T : State, T.heap = H → Stand p l e R s m args below meth c T locs cells slots → ∃ vm', s.WarmedH vm' ∧ ix_Fd e ((T.setTop g).pushFrame (.throwing x)) g x hpc vm')
    (k : W p l e R s m args below meth c H locs cells slots Q { g with pc := hpc, stack := [.ref x] }) : ix_WT p l e R s m args below meth c H locs cells slots Q g x := by
  intro T hT X
  obtain ⟨vm', hW', hf⟩ := hfind T hT X
  obtain ⟨t, a1, b1⟩ := k (T.setVm vm') hT (X.noted hW')
  exact ⟨t, ix_caught (by rw [hg]; exact X.here) hf a1, b1⟩
theorem ix_go_ok {G : ix_G} {o ci pc q : Nat} (hpl : e.platform.magicAccessors = ({} : Platform).magicAccessors) (hown : s.vm.findClass (ix_cn o) = some m.cls) (hts : ix_Ws args s) (hK : va_K G.1 ix_cls G.2.1 s) (hx : va_Nc ix_nI ix_nA s ∧ va_Nc ix_nA ix_nI s) (hci : ci = 11 ∨ ci = 12)
    {f : JFrame} (hf : f.method = m) (hpc : f.pc = pc) {a : Addr} {cell : Cell} (hcls : cell.cls = G.1.1 ci) (hvm : cell.vm = .none) :
    ∀ (tab : List ExceptionTableEntry) (S : State), S.heap[a]? = some cell → s.WarmedH S.vm → ix_hs o pc ci (tab.map fun h => (h.startPc, h.endPc, h.handlerPc, h.catchType)) = some q →
      ∃ vm', s.WarmedH vm' ∧ ∀ (Q : Handler → Pre) (E : CtlPost) (d : Bool) (acts : List Action), wp (findHandler.go f a tab) Q E e d acts S ↔ Q (.found q) d acts (S.setVm vm') := by
  intro tab
  induction tab with
  | nil => intro S _ _ h; cases h
  | cons x t ih =>
    intro S hcell hW h
    rw [List.map_cons, ix_hs] at h
    cases hb : (Nat.ble x.startPc pc && Nat.blt pc x.endPc) with
    | false =>
      simp only [hb, cond_false] at h
      have hskip : covers x f.pc = false := by
        rw [hpc]
        cases hc : covers x pc with
        | false => rfl
        | true =>
          simp only [covers, Bool.and_eq_true, decide_eq_true_eq] at hc
          rw [Bool.and_eq_false_iff] at hb
          rcases hb with z | z
          · rw [Nat.ble_eq_true_of_le hc.1] at z; cases z
          · have : Nat.blt pc x.endPc = true := Nat.ble_eq_true_of_le hc.2
            rw [this] at z; cases z
      obtain ⟨vm', h1, h2⟩ := ih S hcell hW h
      exact ⟨vm', h1, fun Q E d acts => (W.findHandler_go_skip hskip).trans (h2 Q E d acts)⟩
    | true =>
      simp only [hb, cond_true] at h
      have hcov : covers x f.pc = true := by
        rw [hpc]
        simp only [Bool.and_eq_true] at hb
        simp only [covers, Bool.and_eq_true, decide_eq_true_eq]
        exact ⟨Nat.le_of_ble_eq_true hb.1, Nat.le_of_ble_eq_true hb.2⟩
      cases hct : ix_ct o x.catchType with
      | none => simp only [hct] at h; cases h
      | some ci' =>
        simp only [hct] at h
        obtain ⟨hci', h0⟩ := ix_ct_11 hct
        obtain ⟨C', T', N', hcl', hw⟩ := ix_ct_ok hct
        obtain ⟨c', hc', hlinks⟩ := Cond.classLink_spec hown (hts _ hw rfl) e.platform hpl
        obtain ⟨dk, _, _, kt, hd, _, _, _, _, hkt, _, hopen⟩ := hlinks.here
        have hl₀ := hW.classLinks hlinks
        have hW1 : s.WarmedH (S.vm.noted m.cls x.catchType (.cls c')) := hW.noted hd hopen (State.rightAt_cls hlinks)
        have hgives := resolveClass_links e.toSetting hl₀
        have hcc : c' = G.1.1 ci' := Option.some.inj (hc'.symm.trans (hK.1 ci' _ hcl').2.1)
        obtain ⟨kt', hkt', -⟩ := hW1.alike.2.2 _ _ hkt
        have hclsAt : ∃ C T N, ix_cls[ci]? = some (C, T, N) := by
          rcases hci with rfl | rfl
          · exact ⟨_, _, _, rfl⟩
          · exact ⟨_, _, _, rfl⟩
        obtain ⟨C, T0, N0, hcl⟩ := hclsAt
        have hat := (hK.1 ci _ hcl).2
        obtain ⟨kc, hkc, -⟩ := hat.2
        obtain ⟨kc', hkc', -⟩ := hW1.alike.2.2 _ _ hkc
        have hgo : ∀ (Q : Handler → Pre) (E : CtlPost) (d : Bool) (acts : List Action), wp (findHandler.go f a (x :: t)) Q E e d acts S ↔ if (S.vm.noted m.cls x.catchType (.cls c')).assignable cell.cls c' = true then Q (.found x.handlerPc) d acts (S.setVm (S.vm.noted m.cls x.catchType (.cls c'))) else wp (findHandler.go f a t) Q E e d acts (S.setVm (S.vm.noted m.cls x.catchType (.cls c'))) := by
          intro Q E d acts
          subst hf
          exact ix_go_cold hcov h0 hgives (by no_record) hcell (fun k z => by rw [hvm] at z; cases z) ⟨kc', by rw [hcls]; exact hkc'⟩ ⟨kt', hkt'⟩
        cases heq : Nat.beq ci ci' with
        | true =>
          simp only [heq, cond_true] at h
          cases h
          have e1 : ci = ci' := Nat.eq_of_beq_eq_true heq
          subst e1
          refine ⟨_, hW1, fun Q E d acts => (hgo Q E d acts).trans ?_⟩
          rw [if_pos]
          rw [hW1.alike.assignable, hcls, hcc]
          exact va_assign hat
        | false =>
          simp only [heq, cond_false] at h
          obtain ⟨vm2, k1, k2⟩ := ih (S.setVm (S.vm.noted m.cls x.catchType (.cls c'))) hcell hW1 h
          refine ⟨vm2, k1, fun Q E d acts => (hgo Q E d acts).trans ?_⟩
          have hno : s.vm.assignable (G.1.1 ci) (G.1.1 ci') = false := by
            have n11 : s.vm.findClass ix_nI = some (G.1.1 11) := (hK.1 11 _ rfl).2.1
            have n12 : s.vm.findClass ix_nA = some (G.1.1 12) := (hK.1 12 _ rfl).2.1
            obtain ⟨⟨x1, y1, u1, u2, u3⟩, ⟨x2, y2, v1, v2, v3⟩⟩ := hx
            cases n11.symm.trans u1
            cases n12.symm.trans u2
            cases n12.symm.trans v1
            cases n11.symm.trans v2
            rcases hci with rfl | rfl <;> rcases hci' with rfl | rfl
            · cases heq
            · exact u3
            · exact v3
            · cases heq
          rw [if_neg]
          · rw [k2 Q E d acts, State.setVm_twice]
          · rw [hW1.alike.assignable, hcls, hcc, hno]
            decide
/-- the handler of this method -/
theorem ix_hd_some {G : ix_G} {lo : Nat → ix_C} {mi pc q : Nat} {x : Nat × Nat} {h1 : ix_H} {fs : List Value} {ls : Array Slot} {rest : List Value} (I : ix_I G lo mi p R s m args meth c) (hhd : ix_hd mi pc x.1 = some (some q)) (hci : x.1 = 11 ∨ x.1 = 12) (zP : va_P G.1 ix_cls (ix_w G h1) H) (zc : h1.2.2 x.2 = .inr (x.1, fs)) (zr : 32 ≤ x.2) (zr2 : x.2 < h1.1)
    (T : State) (hT : T.heap = H) (X : Stand p l e R s m args below meth c T locs cells slots) : ∃ vm', s.WarmedH vm' ∧ ix_Fd e ((T.setTop { F0 m pc ls [] with stack := rest }).pushFrame (.throwing (ix_a G x.2))) { F0 m pc ls [] with stack := rest } (ix_a G x.2) q vm' := by
  obtain ⟨hexec, hb, hml, hrt, hlk, hnm, hown, hts, hhb, hK, hty, hro, hbs, hfr, hwd⟩ := I
  have hw := ix_w_at (G := G) zr zr2
  rw [zc] at hw
  obtain ⟨qq, z1, cell, q1, q2, q3, -⟩ := zP _ _ hw
  have hpl : e.platform.magicAccessors = ({} : Platform).magicAccessors := by rw [X.admits.platform]
  have hS : ((T.setTop { F0 m pc ls [] with stack := rest }).pushFrame (.throwing (ix_a G x.2))).heap[ix_a G x.2]? = some cell := by
    rw [Stand.throwing_heap, hT]; exact q1
  have hSW : s.WarmedH ((T.setTop { F0 m pc ls [] with stack := rest }).pushFrame (.throwing (ix_a G x.2))).vm := by
    rw [Stand.throwing_vm]; exact X.warmed
  have hs := ix_hd_hs hhd
  unfold ix_hb at hhb
  rw [← hhb] at hs
  obtain ⟨vm', k1, k2⟩ := ix_go_ok (G := G) (m := m) hpl hown hts hK ⟨hro.2.2.1.1, hro.2.2.1.2.1⟩ hci (f := { F0 m pc ls [] with stack := rest }) rfl rfl q2 q3 c.exceptionTable.toList _ hS hSW hs
  refine ⟨vm', k1, fun Q E d acts => ?_⟩
  rw [W.findHandler_eq (meth := meth) (code := c) (by rw [Stand.throwing_vm]; exact X.method') X.code]
  exact k2 Q E d acts
theorem ix_dec {mi pc n : Nat} {i : Instr} (h : ix_ins mi pc = some i) (hn : ix_ln i = n) (h0 : n ≠ 0) : decode (ix_by mi) pc = .ok (i, n) := by
  obtain ⟨len, hd, hl⟩ := ix_ins_ok h
  rcases hl with z | z
  · rw [hn] at z; exact absurd z h0
  · rw [z, hn] at hd; exact hd
theorem ix_thr_ok {mi pc ci : Nat} (h : ix_thr mi pc = some ci) : (mi = 29 ∧ pc = 4 ∧ ci = 11) ∨ (mi = 32 ∧ pc = 19 ∧ ci = 12) := by
  unfold ix_thr at h
  cases h1 : (Nat.beq mi 29 && Nat.beq pc 4) with
  | true =>
    rw [h1] at h
    simp only [Bool.and_eq_true] at h1
    cases h
    exact Or.inl ⟨Nat.eq_of_beq_eq_true h1.1, Nat.eq_of_beq_eq_true h1.2, rfl⟩
  | false =>
    rw [h1] at h
    cases h2 : (Nat.beq mi 32 && Nat.beq pc 19) with
    | true =>
      rw [h2] at h
      simp only [Bool.and_eq_true] at h2
      cases h
      exact Or.inr ⟨Nat.eq_of_beq_eq_true h2.1, Nat.eq_of_beq_eq_true h2.2, rfl⟩
    | false => rw [h2] at h; cases h
/-- where the new exception lies -/
theorem ix_thr_Z {G : ix_G} {lo : Nat → ix_C} {h : ix_H} {ci c0 s0 : Nat} {C : String} {Ht : Heap} {ce : Cell} (hK : va_K G.1 ix_cls G.2.1 s) (hcl : ∃ T, ix_cls[ci]? = some (C, T, 0)) (hci : ci = 11 ∨ ci = 12) (hD : ix_D ix_cls G s.heap h H locs) (hlo : ∀ r, r < 32 → h.2.2 r = lo r) (hHs : H.size = G.2.2.1 + (h.1 - 32)) (hc : c0 + cells = h.1) (hs : s0 + slots = h.2.1) (hCM : h.1 < ix_CM) (hSM : h.2.1 + 6 ≤ ix_SM)
    (hold : ∀ (q : Nat) (x : Cell), H[q]? = some x → Ht[q]? = some x) (hce : Ht[H.size]? = some ce) (hfc : s.vm.findClass C = some ce.cls) (hvm : ce.vm = .none) : ix_Z G lo s.heap (.inr (ci, h.1)) (ix_pu h 6 (.inr (ci, []))) c0 s0 (.threw H.size) Ht (cells + 1) (slots + 6) := by
  obtain ⟨hP, hDD, hS, h32⟩ := hD
  obtain ⟨T, hcl⟩ := hcl
  have ha : ix_a G h.1 = H.size := by rw [ix_a_new h32, hHs]
  have hlt : H.size < Ht.size := (Array.getElem?_eq_some_iff.mp hce).1
  have hkeep : ∀ q, q < H.size → Ht[q]? = H[q]? := fun q hq => by
    have := Array.getElem?_eq_getElem hq
    rw [hold q _ this, this]
  have hself : (ix_pu h 6 (.inr (ci, []))).2.2 h.1 = .inr (ci, []) := by simp [ix_pu, va_up]
  have hat : va_at G.1 ix_cls (G.2.2.1 + (h.1 - 32), ix_c G (.inr (ci, []))) Ht := by
    refine ⟨_, hcl, ce, ?_, ?_, hvm, fun k hk => absurd hk (Nat.not_lt_zero k)⟩
    · rw [← hHs]; exact hce
    · exact Option.some.inj (hfc.symm.trans (hK.1 ci _ hcl).2.1)
  refine ⟨⟨by rw [← ha], ⟨[], hself⟩, h32, Nat.lt_succ_self _, hci⟩, ?_, ?_, Nat.le_succ_of_le h32, Nat.le_trans hS.1 (Nat.le_of_lt hlt), fun q hq hnq => ?_, fun r hr => ?_, ?_, ?_, hCM, hSM⟩
  · rw [← ix_w_pu 6 _ h32]
    exact (hP.kept (fun k q hk => hkeep q.1 (hP k q hk).lt)).app (fun k q hk => by
      cases k with
      | zero => cases hk; exact hat
      | succ k => simp at hk)
  · rw [← ix_w_pu 6 _ h32]
    exact hDD.push hP hHs.symm (Nat.le_add_right _ _)
  · rw [hkeep q (Nat.lt_of_lt_of_le hq hS.1)]
    exact hS.2.1 q hq hnq
  · rw [← hlo r hr]
    simp [ix_pu, va_up, show ¬ r = h.1 by omega]
  · show c0 + (cells + 1) = h.1 + 1
    omega
  · show s0 + (slots + 6) = h.2.1 + 6
    omega
theorem ix_thr_W {G : ix_G} {lo : Nat → ix_C} {mi pc ci c0 s0 : Nat} {h : ix_H} {L : ix_L} {ls : Array Slot} (htr : ∀ e : Env, l.admits e → e.platform.stackTraces = false) (I : ix_I G lo mi p R s m args meth c) (ht : ix_thr mi pc = some ci) (hl : ix_hl G ls L) (hLl : L.length = ix_ml mi)
    (hD : ix_D ix_cls G s.heap h H locs) (hlo : ∀ r, r < 32 → h.2.2 r = lo r) (hsz : s.heap.size = G.2.2.1 + (c0 - 32)) (hc0 : 32 ≤ c0) (hc : c0 + cells = h.1) (hs : s0 + slots = h.2.1) (hRc : ix_CM ≤ c0 + R.cells) (hRs : ix_SM ≤ s0 + R.slots) (hCM : h.1 < ix_CM) (hSM : h.2.1 + 6 ≤ ix_SM) :
    W p l e R s m args below meth c H locs cells slots (ix_Q below s G.2.2.1 (ix_Z G lo s.heap (.inr (ci, h.1)) (ix_pu h 6 (.inr (ci, []))) c0 s0)) (F0 m pc ls []) := by
  obtain ⟨hexec, hb, hml, hrt, hlk, hnm, hown, hts, hhb, hK, hty, hro, hbs, hfr, hwd⟩ := I
  refine ix_W_size fun hle => ?_
  have hHs := ix_size hD hsz hc0 hc hle
  refine ix_W_rebase (R' := { frames := R.frames, cells := R.cells - cells, slots := R.slots - slots, locals := R.locals }) (Z' := fun o Ht k n => ix_Z G lo s.heap (.inr (ci, h.1)) (ix_pu h 6 (.inr (ci, []))) c0 s0 o Ht (cells + k) (slots + n)) (Nat.le_refl _) (Nat.le_refl _) (by show cells + (R.cells - cells) ≤ R.cells; omega) (by show slots + (R.slots - slots) ≤ R.slots; omega) (fun T hT hW => ?_) (fun o Ht k n q => q) hD.2.2.1.2.2
  have hW' : s.WarmedH (T.setFrames (.invoking m args :: below)).vm := hW
  have hheap : (T.setFrames (.invoking m args :: below)).heap = H := hT
  have hts' : ix_Ws args (T.setFrames (.invoking m args :: below)) := ix_warm hW' hts
  have hro' : ix_ro G lo (T.setFrames (.invoking m args :: below)) (T.setFrames (.invoking m args :: below)).heap := by rw [hheap]; exact hro.next hW' hD.2.2.1.2.1
  have hls : ls.size = c.maxLocals := by rw [hl.1, hml]; exact hLl
  rw [← hheap]
  rcases ix_thr_ok ht with ⟨rfl, rfl, rfl⟩ | ⟨rfl, rfl, rfl⟩
  · have hfr' : 6 ≤ R.frames := hfr
    have hwd' : 81 ≤ R.locals := hwd
    refine ix_throwAt (im := 212) hexec hb (by rw [hW'.alike.findClass]; exact hown) hls hlk (ix_hb_nil hhb rfl) htr (ix_dec (mi := 29) (pc := 4) (i := .new 210) rfl rfl (by decide)) (ix_dec (mi := 29) (pc := 7) (i := .dup) rfl rfl (by decide)) (ix_dec (mi := 29) (pc := 8) (i := .invokespecial 212) rfl rfl (by decide)) (ix_dec (mi := 29) (pc := 11) (i := .athrow) rfl rfl (by decide))
      (hts' _ ix_cl_I rfl) (hts' _ ix_in_I.1 rfl) (hts' _ ix_in_I.2 rfl) (by decide +kernel) (ix_atoms_I hts' hro'.2.2.1) hfr' hwd' (by show 1 ≤ R.cells - cells; omega) (by show 6 ≤ R.slots - slots; omega) (fun Ht ce a1 a2 a3 a4 a5 => ?_)
    rw [hheap] at a1 a3 ⊢
    rw [hW'.alike.findClass] at a4
    exact ix_thr_Z hK ⟨_, rfl⟩ (Or.inl rfl) hD hlo hHs hc hs hCM hSM a1 a3 a4 a5
  · have hfr' : 6 ≤ R.frames := hfr
    have hwd' : 81 ≤ R.locals := hwd
    refine ix_throwAt (im := 215) hexec hb (by rw [hW'.alike.findClass]; exact hown) hls hlk (ix_hb_nil hhb rfl) htr (ix_dec (mi := 32) (pc := 19) (i := .new 213) rfl rfl (by decide)) (ix_dec (mi := 32) (pc := 22) (i := .dup) rfl rfl (by decide)) (ix_dec (mi := 32) (pc := 23) (i := .invokespecial 215) rfl rfl (by decide)) (ix_dec (mi := 32) (pc := 26) (i := .athrow) rfl rfl (by decide))
      (hts' _ ix_cl_A rfl) (hts' _ ix_in_A.1 rfl) (hts' _ ix_in_A.2 rfl) (by decide +kernel) (ix_atoms_A hts' hro'.2.2.1) hfr' hwd' (by show 1 ≤ R.cells - cells; omega) (by show 6 ≤ R.slots - slots; omega) (fun Ht ce a1 a2 a3 a4 a5 => ?_)
    rw [hheap] at a1 a3 ⊢
    rw [hW'.alike.findClass] at a4
    exact ix_thr_Z hK ⟨_, rfl⟩ (Or.inr rfl) hD hlo hHs hc hs hCM hSM a1 a3 a4 a5
end IXV
