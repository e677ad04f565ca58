/-! ===== a run of my machine is a run of the machine ===== -/
def ix_Z (G : ix_G) (lo : Nat → ix_C) (H0 : Heap) (o : ix_O) (h' : ix_H) (c0 s0 : Nat) : Outcome → Heap → Nat → Nat → Prop := fun oc Ht k n =>
  (match o with
    | .inl v => oc = .returned (v.map (ix_v G))
    | .inr x => oc = .threw (ix_a G x.2) ∧ (∃ fs, h'.2.2 x.2 = .inr (x.1, fs)) ∧ 32 ≤ x.2 ∧ x.2 < h'.1 ∧ (x.1 = 11 ∨ x.1 = 12)) ∧
  va_P G.1 ix_cls (ix_w G h') Ht ∧ va_D (ix_A G) (ix_w G h') ∧ 32 ≤ h'.1 ∧ H0.size ≤ Ht.size ∧ (∀ q, q < H0.size → ¬ ix_A G q → Ht[q]? = H0[q]?) ∧ (∀ r, r < 32 → h'.2.2 r = lo r) ∧ c0 + k = h'.1 ∧ s0 + n = h'.2.1 ∧ h'.1 ≤ ix_CM ∧ h'.2.1 ≤ ix_SM
theorem ix_en_mem (G : ix_G) : ∀ (as : List Value) (k m i : Nat) (v : Value), ((as.flatMap fun v => if v.category = 2 then [some v, none] else [some v]) ++ List.replicate m (none : Option Value))[i]? = some (some v) → (k + i, ix_v G v) ∈ lv_args k (as.map (ix_v G)) := by
  intro as
  induction as with
  | nil =>
    intro k m i v h
    rw [List.flatMap_nil, List.nil_append, List.getElem?_replicate] at h
    split at h <;> simp at h
  | cons a t ih =>
    intro k m i v h
    rw [List.map_cons, lv_args, ix_cat]
    by_cases hc : a.category = 2
    · rw [List.flatMap_cons, if_pos hc] at h
      rw [if_pos hc]
      cases i with
      | zero =>
        simp at h
        subst h
        exact List.mem_cons_self
      | succ i =>
        cases i with
        | zero => simp at h
        | succ i =>
          simp only [List.cons_append, List.nil_append, List.getElem?_cons_succ] at h
          have := ih (k + 2) m i v h
          rw [show k + (i + 1 + 1) = k + 2 + i by omega]
          exact List.mem_cons_of_mem _ this
    · rw [List.flatMap_cons, if_neg hc] at h
      rw [if_neg hc]
      cases i with
      | zero =>
        simp at h
        subst h
        exact List.mem_cons_self
      | succ i =>
        simp only [List.cons_append, List.nil_append, List.getElem?_cons_succ] at h
        have := ih (k + 1) m i v h
        rw [show k + (i + 1) = k + 1 + i by omega]
        exact List.mem_cons_of_mem _ this
theorem ix_sl_len (G : ix_G) (as : List Value) : (lg_sl (as.map (ix_v G))).length = (as.map Value.category).sum := by
  induction as with
  | nil => rfl
  | cons a t ih =>
    have e : lg_sl ((a :: t).map (ix_v G)) = (if (ix_v G a).category = 2 then [.val (ix_v G a), .second] else [.val (ix_v G a)]) ++ lg_sl (t.map (ix_v G)) := by simp [lg_sl]
    rw [e, List.length_append, ih, ix_cat, List.map_cons, List.sum_cons]
    rcases lv_cat a with z | z <;> simp [z]
theorem ix_fl_len (as : List Value) : (as.flatMap fun v => if v.category = 2 then [some v, none] else [some v]).length = (as.map Value.category).sum := by
  induction as with
  | nil => rfl
  | cons a t ih =>
    rw [List.flatMap_cons, List.length_append, ih, List.map_cons, List.sum_cons]
    rcases lv_cat a with z | z <;> simp [z]
theorem ix_hl_entry (G : ix_G) (as : List Value) (n : Nat) (hle : (as.map Value.category).sum ≤ n) : ix_hl G ((lg_sl (as.map (ix_v G)) ++ List.replicate (n - (lg_sl (as.map (ix_v G))).length) Slot.unset).toArray) (ix_en as n) := by
  have hv := lv_entry (as.map (ix_v G)) (n := n) (by rw [ix_sl_len]; exact hle)
  refine ⟨hv.1.trans ?_, hv.2.1, fun i v hi => ?_⟩
  · simp only [ix_en, List.length_append, List.length_replicate, ix_fl_len]; omega
  · have := ix_en_mem G as 0 _ i v hi
    rw [Nat.zero_add] at this
    exact hv.2.2 _ this
theorem ix_cast.moved {C D : String} {u U : State} (hvm : u.vm.Alike U.vm) (h : va_Nw (.castable C D) u) : va_Nw (.castable C D) U := by
  unfold va_Nw at h ⊢
  simp only [Cond.before, Cond.holds, Cond.value] at h ⊢
  rw [hvm.findClass, hvm.findClass]
  cases h1 : u.vm.findClass C with
  | none => rw [h1] at h; simp at h
  | some a =>
    cases h2 : u.vm.findClass D with
    | none => rw [h1, h2] at h; simp at h
    | some b =>
      rw [h1, h2] at h
      simp only [Option.bind_eq_bind, Option.bind_some] at h ⊢
      rw [hvm.assignable]
      exact h
theorem ix_ls.moved {O n d : String} {A : Nat → Prop} {u U : State} {H : Heap} (hvm : u.vm.Alike U.vm) (h : ix_ls O n d A u H) : ix_ls O n d A U H := by
  obtain ⟨c, k, i, f, a, cell, h0, h1, h2, h3, h4, h5, h6, h7, h8, h9⟩ := h
  obtain ⟨k', hi', he⟩ := State.fieldFound?_setVm hvm h1
  exact ⟨c, k', i, f, a, cell, by rw [hvm.findClass]; exact h0, hi', h2, by rw [he]; exact h3, h4, h5, h6, h7, by rw [he]; exact h8, h9⟩
theorem ix_ls.kept {O n d : String} {A : Nat → Prop} {U : State} {H H1 : Heap} (h : ix_ls O n d A U H) (hq : ∀ a : Nat, a < H.size → ¬ A a → H1[a]? = H[a]?) : ix_ls O n d A U H1 := by
  obtain ⟨c, k, i, f, a, cell, h0, h1, h2, h3, h4, h5, h6, h7, h8, h9⟩ := h
  exact ⟨c, k, i, f, a, cell, h0, h1, h2, h3, by rw [hq a (Array.getElem?_eq_some_iff.mp h4).1 h9]; exact h4, h5, h6, h7, h8, h9⟩
theorem ix_ls.use {O n d : String} {A : Nat → Prop} {s : State} {args : Array Value} (h : ix_ls O n d A s s.heap) : (Cond.laysStatic O n d).before args s = true := by
  obtain ⟨c, k, i, f, a, cell, h0, h1, h2, h3, h4, h5, h6, h7, h8, h9⟩ := h
  simp [Cond.before, Cond.holds, Cond.value, h0, h1, h2, h3, h4, h5, h6, h7, h8]
theorem ix_ro.next {G : ix_G} {lo : Nat → ix_C} {s U : State} {H0 H : Heap} (h : ix_ro G lo s H0) (hW : s.WarmedH U.vm) (hq : ∀ a : Nat, a < H0.size → ¬ ix_A G a → H[a]? = H0[a]?) : ix_ro G lo U H := by
  refine ⟨fun r t n f hr hl => ((h.1 r t n f hr hl).moved hW.alike).kept hq, fun o idx v hg => ?_, ?_, fun o idx r hg => ?_, fun r fs hr hl => ?_⟩
  · obtain ⟨C, nm, d, hZ, hw⟩ := h.2.1 o idx v hg
    exact ⟨C, nm, d, (hZ.moved hW.alike).kept hq, hw⟩
  · obtain ⟨a1, a2, a3, a4, a5, a6, a7, a8, a9, b1, b2⟩ := h.2.2.1
    exact ⟨a1.moved hW.alike, a2.moved hW.alike, ix_cast.moved hW.alike a3, ix_cast.moved hW.alike a4, va_Nw.warmD hW a5, va_Nw.warmD hW a6, va_Nw.warmD hW a7, (a8.moved hW.alike).kept hq, (a9.moved hW.alike).kept hq, (b1.moved hW.alike).kept hq, (b2.moved hW.alike).kept hq⟩
  · obtain ⟨hr, tx, hR⟩ := h.2.2.2.1 o idx r hg
    exact ⟨hr, tx, hR.warm hW⟩
  · obtain ⟨c1, c2, c3⟩ := h.2.2.2.2 r fs hr hl
    exact ⟨(c1.moved hW.alike).kept hq, fun v hv => ((c2 v hv).moved hW.alike).kept hq, fun v hv => ((c3 v hv).moved hW.alike).kept hq⟩
/-- what is claimed of so many turns -/
def ix_P (l : Launch) (G : ix_G) (lo : Nat → ix_C) (n : Nat) : Prop :=
  ∀ (mi pc : Nat) (L : ix_L) (st : List Value) (h : ix_H) (o : ix_O) (h' : ix_H), ix_ev n mi pc L st h = some (o, h') →
  ∀ (p : Program) (e : Env) (R : Room) (s : State) (m : MethodId) (args : Array Value) (below : List Frame) (meth : Method) (c : Code) (H : Heap) (locs : List Loc) (cells slots : Nat) (ls : Array Slot) (c0 s0 : Nat),
    ix_I G lo mi p R s m args meth c → ix_D ix_cls G s.heap h H locs → (∀ r, r < 32 → h.2.2 r = lo r) → s.heap.size = G.2.2.1 + (c0 - 32) → 32 ≤ c0 → c0 + cells = h.1 → s0 + slots = h.2.1 → ix_CM ≤ c0 + R.cells → ix_SM ≤ s0 + R.slots → h.1 ≤ ix_CM → h.2.1 ≤ ix_SM → ix_hl G ls L →
    W p l e R s m args below meth c H locs cells slots (ix_Q below s G.2.2.1 (ix_Z G lo s.heap o h' c0 s0)) (F0 m pc ls (st.map (ix_v G)))
section IXM
variable {p : Program} {l : Launch} {e : Env} {R : Room} {s : State} {m : MethodId} {args : Array Value} {below : List Frame} {meth : Method} {c : Code} {H : Heap} {locs : List Loc} {cells slots : Nat} {Q : State → Prop}
/-- the heap's size at a call -/
theorem ix_size {G : ix_G} {h : ix_H} {c0 : Nat} (hD : ix_D ix_cls G s.heap h H locs) (hsz : s.heap.size = G.2.2.1 + (c0 - 32)) (hc0 : 32 ≤ c0) (hc : c0 + cells = h.1) (hle : H.size ≤ s.heap.size + cells) : H.size = G.2.2.1 + (h.1 - 32) := by
  obtain ⟨hP, -, hS, h32⟩ := hD
  have h1 := hS.1
  rcases Nat.lt_or_ge 32 h.1 with z | z
  · have hr := ix_w_at (G := G) (h := h) (r := h.1 - 1) (by omega) (by omega)
    have := (hP _ _ hr).lt
    rw [ix_a_new (by omega)] at this
    simp only at this
    omega
  · omega
theorem ix_callee {G : ix_G} {lo : Nat → ix_C} {n : Nat} (IH : ix_P l G lo n) {mi mj : Nat} {as : List Value} {h h1 : ix_H} {o1 : ix_O} (hv : ix_ev n mj 0 (ix_en as (ix_ml mj)) [] h = some (o1, h1)) (I : ix_I G lo mi p R s m args meth c)
    (hD : ix_D ix_cls G s.heap h H locs) (hlo : ∀ r, r < 32 → h.2.2 r = lo r) (hsz : H.size = G.2.2.1 + (h.1 - 32)) (hCM : h.1 ≤ ix_CM) (hSM : h.2.1 ≤ ix_SM) (hcat : (as.map Value.category).sum ≤ ix_ml mj)
    {mk : MethodId} {methk : Method} {ck : Code} (hn : s.methodNamed? (ix_y mj) = some mk) (hmk : s.vm.method? mk = some methk) (h3 : ck.code = ix_by mj) (h4 : ck.maxLocals = ix_ml mj) (h5 : methk.sig.returnType = ix_rt mj) (h6 : methk.locks = false) (h7 : ix_hb mj ck) (hoj : ix_cn (ix_o mj) = (ix_y mj).cls)
    (T : State) (hT : T.heap = H) (hW : s.WarmedH T.vm) (g' : JFrame) :
    W p l e { frames := ix_fr mj, cells := ix_CM - h.1, slots := ix_SM - h.2.1, locals := ix_wd mj } (T.calling g' mk (as.map (ix_v G)).toArray) mk (as.map (ix_v G)).toArray (.java g' :: below) methk ck T.heap [] 0 0 (ix_Q (.java g' :: below) (T.calling g' mk (as.map (ix_v G)).toArray) G.2.2.1 (ix_Z G lo H o1 h1 h.1 h.2.1)) (entryFrame mk (as.map (ix_v G)).toArray ck.maxLocals) := by
  obtain ⟨hexec, -, -, -, -, -, -, hts, -, hK, hty, hro, hbs, -, -⟩ := I
  obtain ⟨hP, hDD, hS, h32⟩ := hD
  have hvm : (T.calling g' mk (as.map (ix_v G)).toArray).vm = T.vm := rfl
  have hheap : (T.calling g' mk (as.map (ix_v G)).toArray).heap = H := hT
  have hW' : s.WarmedH (T.calling g' mk (as.map (ix_v G)).toArray).vm := hW
  have hI : ix_I G lo mj p { frames := ix_fr mj, cells := ix_CM - h.1, slots := ix_SM - h.2.1, locals := ix_wd mj } (T.calling g' mk (as.map (ix_v G)).toArray) mk (as.map (ix_v G)).toArray methk ck := by
    refine ⟨hexec, h3, h4, h5, h6, (name_of_methodNamed hn hmk).1, ?_, ix_warm hW' hts, h7, hK.moved hW'.alike, hty, ?_, ?_, Nat.le_refl _, Nat.le_refl _⟩
    · rw [hoj, hW'.alike.findClass]; exact findClass_of_methodNamed hn
    · rw [hheap]; exact hro.next hW' hS.2.1
    · rw [hheap, hsz]; omega
  have := IH mj 0 (ix_en as (ix_ml mj)) [] h o1 h1 hv p e _ (T.calling g' mk (as.map (ix_v G)).toArray) mk (as.map (ix_v G)).toArray (.java g' :: below) methk ck H [] 0 0 _ h.1 h.2.1 hI
    ⟨hP, hDD, by rw [hheap]; exact va_S.rf, h32⟩ hlo (by rw [hheap]; exact hsz) h32 rfl rfl (by show ix_CM ≤ h.1 + (ix_CM - h.1); omega) (by show ix_SM ≤ h.2.1 + (ix_SM - h.2.1); omega) hCM hSM (ix_hl_entry G as (ix_ml mj) hcat)
  rw [hheap] at this
  rw [h4, lg_entry_eq, hT]
  exact this
end IXM
theorem ix_recv {s : State} {G : ix_G} {H0 H : Heap} {h : ix_H} {locs : List Loc} {r ci : Nat} {fs : List Value} {C : String} (hK : va_K G.1 ix_cls G.2.1 s) (hD : ix_D ix_cls G H0 h H locs) (hr : h.2.2 r = .inr (ci, fs)) (h32 : 32 ≤ r) (hlt : r < h.1) (hcls : (ix_cls[ci]?).map (fun q => q.1) = some C) : ∃ cellB : Cell, H[ix_a G r]? = some cellB ∧ cellB.vm.isStatics = false ∧ s.vm.findClass C = some cellB.cls := by
  have hw := ix_w_at (G := G) h32 hlt
  rw [hr] at hw
  obtain ⟨q, h1, cell, q1, q2, q3, -⟩ := hD.1 _ _ hw
  rw [h1] at hcls
  obtain rfl : q.1 = C := by simpa using hcls
  exact ⟨cell, q1, by rw [q3]; rfl, by rw [q2]; exact (hK.1 ci q h1).2.1⟩
theorem ix_recv_ne {G : ix_G} {H0 H : Heap} {h : ix_H} {locs : List Loc} {r ci : Nat} {fs : List Value} (hD : ix_D ix_cls G H0 h H locs) (hr : h.2.2 r = .inr (ci, fs)) (h32 : 32 ≤ r) (hlt : r < h.1) : ci ≠ 100 := by
  have hw := ix_w_at (G := G) h32 hlt
  rw [hr] at hw
  obtain ⟨q, h1, -⟩ := hD.1 _ _ hw
  intro z
  have := (List.getElem?_eq_some_iff.mp h1).1
  rw [ix_cls_len] at this
  omega
theorem ix_meth {s : State} {args : Array Value} (hts : ix_Ws args s) {o k mj : Nat} (hcal : ix_cal o k = some (0, mj)) : ∃ (mk : MethodId) (methk : Method) (ck : Code), s.methodNamed? (ix_y mj) = some mk ∧ s.vm.method? mk = some methk ∧ methk.code = some ck ∧ ck.code = ix_by mj ∧ ck.maxLocals = ix_ml mj ∧ methk.sig.returnType = ix_rt mj ∧ methk.locks = false ∧ ix_hb mj ck ∧ parseMethodDescriptor (ix_y mj).desc = some methk.sig ∧ (∀ T : State, s.WarmedH T.vm → T.plainMethod mk) ∧ ix_cn (ix_o mj) = (ix_y mj).cls := by
  obtain ⟨⟨hj1, hj2⟩, -⟩ := ix_cal_ok hcal
  obtain ⟨⟨hor, hpl, hoj⟩, -⟩ := ix_Y hj1 hj2
  have plain : ∀ {mk : MethodId} {methk : Method}, s.methodNamed? (ix_y mj) = some mk → s.vm.method? mk = some methk → ∀ T : State, s.WarmedH T.vm → T.plainMethod mk := by
    intro mk methk hn hm T hW
    have q : (s.setVm T.vm).methodNamed? (ix_y mj) = some mk := by rw [State.methodNamed?_setVm hW.alike]; exact hn
    have q' : T.methodNamed? (ix_y mj) = some mk := q
    exact State.plainMethod.of_named hpl q' (by rw [hW.alike.method?]; exact hm)
  rcases hor with ⟨hh, hw⟩ | ⟨-, hw⟩
  · have hc := hts _ hw rfl
    obtain ⟨mk, hn⟩ := Cond.code_named hc
    obtain ⟨methk, ck, h1, h2, h3, h4, h5, h6, h7, h8⟩ := Cond.code_spec hn hc
    refine ⟨mk, methk, ck, hn, h1, h2, h3, h4, h5, h6, ?_, h8, plain hn h1, hoj⟩
    unfold ix_hb
    rw [hh]
    have : ck.exceptionTable.toList = [] := by simpa using h7
    rw [this]; rfl
  · have hc := hts _ hw rfl
    obtain ⟨mk, methk, ck, hn, h1, h2, h3, h4, h7, h5, h6, h8⟩ := Cond.codeWith_spec hc
    exact ⟨mk, methk, ck, hn, h1, h2, h3, h4, h5, h6, h7, h8, plain hn h1, hoj⟩
section IXN
variable {p : Program} {l : Launch} {e : Env} {R : Room} {s : State} {m : MethodId} {args : Array Value} {below : List Frame} {meth : Method} {c : Code} {H : Heap} {locs : List Loc} {cells slots : Nat} {Q : State → Prop}
theorem ix_ret_ok {G : ix_G} {lo : Nat → ix_C} {mi pc c0 s0 : Nat} {i : Instr} {st : List Value} {v : Option Value} {h : ix_H} {ls : Array Slot} (I : ix_I G lo mi p R s m args meth c) (hi : ix_ins mi pc = some i) (hv : ix_rv (ix_rt mi) i st = some v)
    (hD : ix_D ix_cls G s.heap h H locs) (hlo : ∀ r, r < 32 → h.2.2 r = lo r) (hc : c0 + cells = h.1) (hs : s0 + slots = h.2.1) (hCM : h.1 ≤ ix_CM) (hSM : h.2.1 ≤ ix_SM) :
    W p l e R s m args below meth c H locs cells slots (ix_Q below s G.2.2.1 (ix_Z G lo s.heap (.inl v) h c0 s0)) (F0 m pc ls (st.map (ix_v G))) := by
  obtain ⟨hexec, hb, hml, hrt, hlk, hnm, hown, hts, hhb, hK, hty, hro, hbs, hfr, hwd⟩ := I
  obtain ⟨len, hd, hn⟩ := ix_ins_ok hi
  obtain ⟨hP, hDD, hS, h32⟩ := hD
  have d1 : ix_ln i = 1 → decode (ix_by mi) pc = .ok (i, 1) := fun q => by
    rcases hn with z | z
    · omega
    · rw [z, q] at hd; exact hd
  have hZ : ix_Z G lo s.heap (.inl v) h c0 s0 (.returned (v.map (ix_v G))) H cells slots := ⟨rfl, hP, hDD, h32, hS.1, hS.2.1, hlo, hc, hs, hCM, hSM⟩
  unfold ix_rv at hv
  split at hv
  · next hq =>
    split at hv
    · next hna => cases hv; exact ix_ret_i hexec hb (hrt.trans hq) hlk hna hS.2.2 hZ (d1 rfl)
    · cases hv
  · next hq => cases hv; exact ix_ret_l hexec hb (hrt.trans hq) hlk hS.2.2 hZ (d1 rfl)
  · next hq => cases hv; exact ix_ret_a hexec hb (hrt.trans hq) (Or.inl ⟨_, rfl⟩) hlk hS.2.2 hZ (d1 rfl)
  · next hq => cases hv; exact ix_ret_a hexec hb (hrt.trans hq) (Or.inr ⟨_, rfl⟩) hlk hS.2.2 hZ (d1 rfl)
  · next hq => cases hv; exact ix_ret_v hexec hb (hrt.trans hq) hlk hS.2.2 hZ (d1 rfl)
  · cases hv
/-- an invoking instruction, up to the callee -/
theorem ix_inv_ok {G : ix_G} {lo : Nat → ix_C} {mi mj pc k : Nat} {i : Instr} {as rest : List Value} {h : ix_H} {ls : Array Slot} (I : ix_I G lo mi p R s m args meth c) (hi : ix_ins mi pc = some i) (hy : ix_ix i = some k) (hcal : ix_cal (ix_o mi) k = some (0, mj)) (hkd : ix_kd i mj = true)
    (hrc : ix_sta mj = true ∨ ix_rc mj as h = true) (hlen : as.length = ix_na' mj) (hD : ix_D ix_cls G s.heap h H locs) (hlo : ∀ r, r < 32 → h.2.2 r = lo r)
    {mk : MethodId} {methk : Method} (hn : s.methodNamed? (ix_y mj) = some mk) (hmk : s.vm.method? mk = some methk) (hsig : parseMethodDescriptor (ix_y mj).desc = some methk.sig) :
    ix_Inv p l e R s m args below meth c H locs cells slots (F0 m pc ls ((as.reverse ++ rest).map (ix_v G))) (rest.map (ix_v G)) mk (as.map (ix_v G)).toArray ∧ decode c.code pc = .ok (i, 3) := by
  obtain ⟨hexec, hb, hml, hrt, hlk, hnm, hown, hts, hhb, hK, hty, hro, hbs, hfr, hwd⟩ := I
  obtain ⟨len, hd, hln⟩ := ix_ins_ok hi
  obtain ⟨⟨hj1, hj2⟩, hlink⟩ := ix_cal_ok hcal
  obtain ⟨-, hnp, hmh, hinit, hst, hin, hsel, hini⟩ := ix_Y hj1 hj2
  have hnp' : methk.sig.parameters.length = ix_np mj := by
    rw [hsig] at hnp
    simpa using hnp
  have d3 : decode c.code pc = .ok (i, 3) := by
    rw [hb]
    have h3 : ix_ln i = 3 := by
      unfold ix_ix at hy
      split at hy <;> first | rfl | cases hy
    rcases hln with z | z
    · omega
    · rw [z, h3] at hd; exact hd
  refine ⟨?_, d3⟩
  have hstack : ∀ (A B : List Value), (A.reverse ++ B).map (ix_v G) = (A.map (ix_v G)).reverse ++ B.map (ix_v G) := fun A B => by rw [List.map_append, List.map_reverse]
  have hlk2 : (Cond.methodLink (ix_cn (ix_o mi)) k (ix_y mj)).before args s = true ∨ ∃ host, (Cond.methodLinkNest (ix_cn (ix_o mi)) k (ix_y mj) host).before args s = true := by
    rcases hlink with z | ⟨host, z⟩
    · exact Or.inl (hts _ z rfl)
    · exact Or.inr ⟨host, hts _ z rfl⟩
  cases i with
  | invokestatic k' =>
    cases hy
    have hs1 : ix_sta mj = true := hkd
    exact ix_inv_s hexec hown hlk2 (hts _ (hst hs1) rfl) (hts _ hinit rfl) hn hmk hmh (g := F0 m pc ls ((as.reverse ++ rest).map (ix_v G))) rfl (As := as.map (ix_v G)) (by rw [List.length_map, hlen, ix_na', if_pos hs1]; exact hnp'.symm) (hstack _ _) d3
  | invokevirtual k' =>
    cases hy
    simp only [ix_kd, Bool.and_eq_true, Bool.not_eq_true'] at hkd
    obtain ⟨hs1, hs2⟩ := hkd
    have hrc' : ix_rc mj as h = true := hrc.resolve_left (by rw [hs1]; decide)
    unfold ix_rc at hrc'
    split at hrc'
    · next r t =>
      split at hrc'
      · next ci fs hr =>
        simp only [Bool.and_eq_true, beq_iff_eq] at hrc'
        obtain ⟨⟨hci, h32q⟩, hlt⟩ := hrc'
        have hlt' : r < h.1 := Nat.le_of_ble_eq_true hlt
        have hci' : ci = ix_ci mj := Nat.eq_of_beq_eq_true hci
        subst hci'
        have this : ((Value.ref r :: t).reverse ++ rest).map (ix_v G) = (t.map (ix_v G)).reverse ++ Value.ref (ix_a G r) :: rest.map (ix_v G) := by simp [ix_v]
        rcases Nat.lt_or_ge r 32 with z32 | z32
        · have h100 : ix_ci mj = 100 := by
            rw [show Nat.blt r 32 = true from Nat.ble_eq_true_of_le z32] at h32q
            exact Nat.eq_of_beq_eq_true h32q.symm
          obtain ⟨hcs, hse⟩ := ix_s100 hj1 h100 hs1
          obtain ⟨hO, -, -⟩ := hro.2.2.2.2 r fs z32 (by rw [← hlo r z32, hr, h100])
          obtain ⟨cellB, f1, f2, f3⟩ := va_Orecv hO hD.2.2.1
          have ea : ix_a G r = G.2.2.2.1 r := by simp [ix_a, z32]
          rw [← ea] at f1
          exact ix_inv_v hexec hown hlk2 (hts _ (hin hs1) rfl) (hts _ hse rfl) hn hmk hmh f1 f2 f3 (g := F0 m pc ls (((Value.ref r :: t).reverse ++ rest).map (ix_v G))) rfl (As := t.map (ix_v G)) (by rw [List.length_map, hnp']; rw [List.length_cons, ix_na', if_neg (by rw [hs1]; decide)] at hlen; omega) this d3
        · have hne : ix_ci mj ≠ 100 := ix_recv_ne hD hr z32 hlt'
          obtain ⟨cellB, f1, f2, f3⟩ := ix_recv hK hD hr z32 hlt' (hsel hs1 hs2 hne).2
          exact ix_inv_v hexec hown hlk2 (hts _ (hin hs1) rfl) (hts _ (hsel hs1 hs2 hne).1 rfl) hn hmk hmh f1 f2 f3 (g := F0 m pc ls (((Value.ref r :: t).reverse ++ rest).map (ix_v G))) rfl (As := t.map (ix_v G)) (by rw [List.length_map, hnp']; rw [List.length_cons, ix_na', if_neg (by rw [hs1]; decide)] at hlen; omega) this d3
      · cases hrc'
    · cases hrc'
  | invokespecial k' =>
    cases hy
    simp only [ix_kd, Bool.and_eq_true, Bool.not_eq_true'] at hkd
    obtain ⟨hs1, hs2⟩ := hkd
    have hrc' : ix_rc mj as h = true := hrc.resolve_left (by rw [hs1]; decide)
    unfold ix_rc at hrc'
    split at hrc'
    · next r t =>
      have : ((Value.ref r :: t).reverse ++ rest).map (ix_v G) = (t.map (ix_v G)).reverse ++ Value.ref (ix_a G r) :: rest.map (ix_v G) := by simp [ix_v]
      obtain ⟨hi1, hi2, hi3⟩ := hini hs2
      have hcode : Cond.code (ix_y mj) (ix_by mj) (ix_ml mj) none ∈ lw_tbl := by
        obtain ⟨⟨hor, -⟩, -⟩ := ix_Y hj1 hj2
        rw [← hi2]
        rcases hor with z | z
        · exact z.2
        · exact absurd hi3 z.1
      exact ix_inv_i hexec hown hi1 hlk2 (hts _ (hin hs1) rfl) (hts _ hcode rfl) hn hmh (g := F0 m pc ls (((Value.ref r :: t).reverse ++ rest).map (ix_v G))) rfl (b := ix_a G r) (As := t.map (ix_v G)) (fun sig hq => by
        rw [hsig] at hq; cases hq
        rw [List.length_map, hnp']; rw [List.length_cons, ix_na', if_neg (by rw [hs1]; decide)] at hlen; omega) this d3
    · cases hrc'
  | _ => cases hy
theorem ix_pr_s {i : Instr} {q mi pc pc' : Nat} {L L' : ix_L} {st st' : List Value} {h h' : ix_H} (hx : ix_pr i q mi pc L st h = some (pc', L', st', h')) : pc' = pc + 3 ∧ L' = L ∧ L.length = ix_ml mi ∧ 1 ≤ ix_fr mi ∧
    ((∃ (k r : Nat), i = .invokespecial k ∧ q = 1 ∧ st = .ref r :: st' ∧ (st'.map Value.category).sum + 12 ≤ ix_wd mi ∧ h' = h) ∨
     (∃ (k r0 r1 n0 n1 : Nat) (n dp sp : Int32) (f g : Nat → Int32), i = .invokestatic k ∧ q = 2 ∧ st = .int n :: .int dp :: .ref r1 :: .int sp :: .ref r0 :: st' ∧ h.2.2 r0 = .inl (0, n0, .inl f) ∧ h.2.2 r1 = .inl (0, n1, .inl g) ∧ 32 ≤ r0 ∧ r0 < h.1 ∧ 32 ≤ r1 ∧ r1 < h.1 ∧ ¬ sp < 0 ∧ ¬ dp < 0 ∧ ¬ n < 0 ∧ sp.toNatClampNeg + n.toNatClampNeg ≤ n0 ∧ dp.toNatClampNeg + n.toNatClampNeg ≤ n1 ∧ (st'.map Value.category).sum + (nativeFrameWords "java/lang/System" "arraycopy" 5 + 11) ≤ ix_wd mi ∧
       h' = ix_up h r1 (.inl (0, n1, .inl (va_cpy f g sp.toNatClampNeg dp.toNatClampNeg n.toNatClampNeg))))) := by
  unfold ix_pr at hx
  split at hx
  · split at hx
    · next z => cases hx; exact ⟨rfl, rfl, z.1, z.2.1, Or.inl ⟨_, _, rfl, rfl, rfl, z.2.2, rfl⟩⟩
    · cases hx
  · split at hx
    · next hr0 hr1 =>
      split at hx
      · next z =>
        obtain ⟨z0, rfl, rfl, z1, z2, z3, z4, z5, z6, z7, z8, z9, z10, z11⟩ := z
        cases hx
        exact ⟨rfl, rfl, z0, z10, Or.inr ⟨_, _, _, _, _, _, _, _, _, _, rfl, rfl, rfl, hr0, hr1, z1, z2, z3, z4, z5, z6, z7, z8, z9, z11, rfl⟩⟩
      · cases hx
    · cases hx
  · cases hx
theorem ix_pr_L {i : Instr} {q mi pc pc' : Nat} {L L' : ix_L} {st st' : List Value} {h h' : ix_H} (hx : ix_pr i q mi pc L st h = some (pc', L', st', h')) : L' = L := (ix_pr_s hx).2.1
theorem ix_pr_ok {G : ix_G} {lo : Nat → ix_C} {mi pc pc' k q mj c0 s0 : Nat} {i : Instr} {L L' : ix_L} {st st' : List Value} {h h' : ix_H} {ls : Array Slot} (I : ix_I G lo mi p R s m args meth c) (hi : ix_ins mi pc = some i) (hy : ix_ix i = some k) (hcal : ix_cal (ix_o mi) k = some (q + 1, mj)) (hx : ix_pr i (q + 1) mi pc L st h = some (pc', L', st', h'))
    (hl : ix_hl G ls L) (hD : ix_D ix_cls G s.heap h H locs) (hlo : ∀ r, r < 32 → h.2.2 r = lo r) (hc : c0 + cells = h.1) (hs : s0 + slots = h.2.1) (hCM : h.1 ≤ ix_CM) (hSM : h.2.1 ≤ ix_SM)
    (kk : ∀ (H' : Heap) (locs' : List Loc), ix_D ix_cls G s.heap h' H' locs' → (∀ r, r < 32 → h'.2.2 r = lo r) → c0 + cells = h'.1 → s0 + slots = h'.2.1 → h'.1 ≤ ix_CM → h'.2.1 ≤ ix_SM → W p l e R s m args below meth c H' locs' cells slots Q (F0 m pc' ls (st'.map (ix_v G)))) :
    W p l e R s m args below meth c H locs cells slots Q (F0 m pc ls (st.map (ix_v G))) := by
  obtain ⟨hexec, hb, hml, hrt, hlk, hnm, hown, hts, hhb, hK, hty, hro, hbs, hfr, hwd⟩ := I
  obtain ⟨len, hd, hn⟩ := ix_ins_ok hi
  obtain ⟨hP, hDD, hS, h32⟩ := id hD
  have hsum : ((st'.map (ix_v G)).map fun v => v.category).sum = (st'.map Value.category).sum := by
    rw [List.map_map]; congr 1; apply List.map_congr_left; intro v _; exact ix_cat G v
  obtain ⟨rfl, rfl, hL, hfr1, hor⟩ := ix_pr_s hx
  have hsz : ls.size = c.maxLocals := by rw [hl.1, hml]; exact hL
  rcases hor with ⟨k', r, rfl, hq, rfl, hw, rfl⟩ | ⟨k', r0, r1, n0, n1, n, dp, sp, f, g, rfl, hq, rfl, hr0, hr1, z1, z2, z3, z4, z5, z6, z7, z8, z9, hw, rfl⟩
  · cases hy
    have hd3 : decode (ix_by mi) pc = .ok (.invokespecial k, 3) := by
      rcases hn with z | z
      · cases z
      · rw [z] at hd; exact hd
    have hcal' : ix_cal (ix_o mi) k = some (1, mj) := by rw [hcal]; congr 2
    obtain ⟨w1, w2, w3⟩ := ix_obj_ok hcal'
    exact W.objInit hexec hb hown (hts _ w1 rfl) (hts _ w2 rfl) (hts _ w3 rfl) (g := F0 m pc ls ((Value.ref r :: st').map (ix_v G))) rfl hsz (a := ix_a G r) (rest := st'.map (ix_v G)) rfl hd3 (by omega) (by show 2 * 0 + _ + 12 ≤ _; rw [hsum]; omega) (kk H locs hD hlo hc hs hCM hSM)
  · cases hy
    have hd3 : decode (ix_by mi) pc = .ok (.invokestatic k, 3) := by
      rcases hn with z | z
      · cases z
      · rw [z] at hd; exact hd
    have hcal' : ix_cal (ix_o mi) k = some (2, mj) := by rw [hcal]; congr 2
    obtain ⟨w1, w2, w3, w4⟩ := ix_cpy_ok hcal'
    have wAt : ∀ {r : Nat} {x : ix_C}, 32 ≤ r → r < h.1 → h.2.2 r = x → (ix_w G h)[r - 32]? = some (ix_a G r, ix_c G x) := fun a b e => by rw [← e]; exact ix_w_at a b
    have e2 : ((Value.int n :: Value.int dp :: Value.ref r1 :: Value.int sp :: Value.ref r0 :: st').map (ix_v G)) = .int n :: .int dp :: .ref (ix_a G r1) :: .int sp :: .ref (ix_a G r0) :: st'.map (ix_v G) := rfl
    rw [e2]
    refine va_copyi hexec hb hsz.symm hown (hts _ w1 rfl) (hts _ w2 rfl) (hts _ w3 rfl) (hts _ w4 rfl) hK hP hDD hS (r0 - 32) (r1 - 32) 0 0 (f := f) (g := g) (wAt z1 z2 hr0) (wAt z3 z4 hr1) (ix_tyAt hty (t := 0) (by omega)) (ix_tyAt hty (t := 0) (by omega)) rfl z5 z6 z7 z8 z9 (fun _ _ => rfl) (by omega) (by rw [hsum]; omega) hd3 (fun H1 locs1 a b d => kk H1 locs1 (hD.put _ z3 z4 a b d) ?_ hc hs hCM hSM)
    intro q hq
    rw [← hlo q hq]
    simp [ix_up, va_up, show ¬ q = r1 by omega]
end IXN
