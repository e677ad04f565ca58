/-! ===== my machine's steps are the machine's ===== -/
noncomputable def ix_ty (t : Nat) : FieldType := match t with
  | 0 => .int
  | 1 => .long
  | 2 => .char
  | 3 => .boolean
  | 4 => .object ix_nD
  | _ => .byte
abbrev ix_A (G : ix_G) : Nat → Prop := fun q => G.2.2.1 ≤ q
def ix_nI : String := "java/lang/IllegalArgumentException"
def ix_nA : String := "java/lang/ArithmeticException"
/-- a static field's place -/
def ix_ls (O n d : String) (A : Nat → Prop) (U : State) (HU : Heap) : Prop := ∃ (c : ClassId) (k : Class) (i : Nat) (f : Field) (a : Nat) (cell : Cell), U.vm.findClass O = some c ∧ U.fieldFound? O n d = some (c, k, i, f) ∧ f.isStatic = true ∧ k.statics = some a ∧ HU[a]? = some cell ∧ cell.vm.isStatics = true ∧ cell.cls = c ∧ f.slot < cell.slots.size ∧ k.staticTypes[f.slot]? = some f.type ∧ ¬ A a
/-- what a throw and a catch ask -/
def ix_xt (G : ix_G) (U : State) (HU : Heap) : Prop := va_Nc ix_nI ix_nA U ∧ va_Nc ix_nA ix_nI U ∧ va_Nw (.castable ix_nI ix_nI) U ∧ va_Nw (.castable ix_nA ix_nA) U ∧ va_Nw (.declares (Bundle.init0 "java/lang/RuntimeException")) U ∧ va_Nw (.declares (Bundle.init0 "java/lang/Exception")) U ∧ va_Nw (.declares (Bundle.init0 "java/lang/Throwable")) U ∧
  va_Zq "java/lang/Throwable" "UNASSIGNED_STACK" "[Ljava/lang/StackTraceElement;" (ix_A G) U HU ∧ va_Zq "java/lang/Throwable" "SUPPRESSED_SENTINEL" "Ljava/util/List;" (ix_A G) U HU ∧ ix_ls "java/lang/Throwable" "UNASSIGNED_STACK" "[Ljava/lang/StackTraceElement;" (ix_A G) U HU ∧ ix_ls "java/lang/Throwable" "SUPPRESSED_SENTINEL" "Ljava/util/List;" (ix_A G) U HU
/-- what is only read: arrays, static fields, Strings -/
def ix_ro (G : ix_G) (lo : Nat → ix_C) (U : State) (HU : Heap) : Prop :=
  (∀ (r t n : Nat) (f : Nat → Int32), r < 32 → lo r = .inl (t, n, .inl f) → va_T (ix_ty t) (G.2.2.2.1 r) n (fun j => .int (f j)) (ix_A G) U HU) ∧
  (∀ (o idx : Nat) (v : Value), ix_gv o idx = some v → ∃ C nm d, va_Z C nm d (ix_v G v) (ix_A G) U HU ∧ Cond.fieldLink (ix_cn o) idx C nm d ∈ lw_tbl) ∧ ix_xt G U HU ∧
  (∀ (o idx r : Nat), ix_ks o idx = some r → r < 32 ∧ ∃ tx, vk_R (ix_cn o) idx tx (G.2.2.2.1 r) U) ∧
  (∀ (r : Nat) (fs : List Value), r < 32 → lo r = .inr (100, fs) → va_O "java/lang/String" (G.2.2.2.1 r) (ix_A G) U HU ∧ (∀ v, fs[0]? = some v → va_OF "java/lang/String" "value" "[B" (ix_v G v) (G.2.2.2.1 r) (ix_A G) U HU) ∧ (∀ v, fs[1]? = some v → va_OF "java/lang/String" "coder" "B" (ix_v G v) (G.2.2.2.1 r) (ix_A G) U HU))
/-- the exception table is the one that the tables have -/
def ix_hb (mi : Nat) (c : Code) : Prop := c.exceptionTable.toList.map (fun h => (h.startPc, h.endPc, h.handlerPc, h.catchType)) = ix_hh mi
/-- what a method's walk knows -/
def ix_I (G : ix_G) (lo : Nat → ix_C) (mi : Nat) (p : Program) (R : Room) (s : State) (m : MethodId) (args : Array Value) (meth : Method) (c : Code) : Prop :=
  p.tables.exec = Jvm.exec ∧ c.code = ix_by mi ∧ c.maxLocals = ix_ml mi ∧ meth.sig.returnType = ix_rt mi ∧ meth.locks = false ∧ meth.name = (ix_y mi).name ∧ s.vm.findClass (ix_cn (ix_o mi)) = some m.cls ∧ ix_Ws args s ∧ ix_hb mi c ∧
  va_K G.1 ix_cls G.2.1 s ∧ G.2.1.map (fun q => q.2) = [.int, .long, .char, .boolean, .object ix_nD] ∧ ix_ro G lo s s.heap ∧ G.2.2.1 ≤ s.heap.size ∧ ix_fr mi ≤ R.frames ∧ ix_wd mi ≤ R.locals
theorem ix_tyAt {G : ix_G} (h : G.2.1.map (fun q => q.2) = [.int, .long, .char, .boolean, .object ix_nD]) {t : Nat} (ht : t < 5) : G.2.1[t]? = some (ix_k G t, ix_ty t) := by
  have e : (G.2.1.map (fun q => q.2))[t]? = some (ix_ty t) := by
    rw [h]
    have : t = 0 ∨ t = 1 ∨ t = 2 ∨ t = 3 ∨ t = 4 := by omega
    rcases this with rfl | rfl | rfl | rfl | rfl <;> rfl
  rw [List.getElem?_map] at e
  cases hq : G.2.1[t]? with
  | none => rw [hq] at e; cases e
  | some z =>
    rw [hq] at e
    simp at e
    obtain ⟨z1, z2⟩ := z
    simp at e
    subst e
    simp [ix_k, List.getD_eq_getElem?_getD, hq]
theorem ix_D.put {cl : List vw_C} {G : ix_G} {H0 H1 : Heap} {h : ix_H} {H : Heap} {locs locs1 : List Loc} {r : Nat} (c' : ix_C) (hD : ix_D cl G H0 h H locs) (h1 : 32 ≤ r) (h2 : r < h.1)
    (a : va_P G.1 cl ((ix_w G h).set (r - 32) (ix_a G r, ix_c G c')) H1) (b : va_D (ix_A G) ((ix_w G h).set (r - 32) (ix_a G r, ix_c G c'))) (d : va_S (ix_A G) H0 H1 locs1) : ix_D cl G H0 (ix_up h r c') H1 locs1 := by
  rw [ix_w_up c' h1 h2] at a b
  exact ⟨a, b, d, hD.2.2.2⟩
/-- the new cell lies where it must -/
theorem ix_new_at {cl : List vw_C} {G : ix_G} {h : ix_H} {H1 : Heap} {q : Nat} {x : va_E} (h32 : 32 ≤ h.1) (hP : va_P G.1 cl (ix_w G h ++ [(q, x)]) H1) (hD : va_D (ix_A G) (ix_w G h ++ [(q, x)])) (hs : H1.size ≤ G.2.2.1 + (h.1 - 32) + 1) : q = G.2.2.1 + (h.1 - 32) := by
  have hq : (ix_w G h ++ [(q, x)])[h.1 - 32]? = some (q, x) := by
    rw [List.getElem?_append_right (by rw [ix_w_len]; omega), ix_w_len, Nat.sub_self]; rfl
  have h1 : G.2.2.1 ≤ q := hD.2 _ _ hq
  have h2 : q < H1.size := (hP _ _ hq).lt
  rcases Nat.lt_or_ge q (G.2.2.1 + (h.1 - 32)) with z | z
  · exfalso
    have hr : (ix_w G h)[(32 + (q - G.2.2.1)) - 32]? = _ := ix_w_at (G := G) (h := h) (r := 32 + (q - G.2.2.1)) (by omega) (by omega)
    have hr2 : (ix_w G h ++ [(q, x)])[(32 + (q - G.2.2.1)) - 32]? = _ := (List.getElem?_append_left (by rw [ix_w_len]; omega)).trans hr
    have e := hD.1 _ _ _ _ hr2 hq (by rw [ix_a_new (by omega)]; show G.2.2.1 + _ = q; omega)
    omega
  · omega
theorem ix_D.push {cl : List vw_C} {G : ix_G} {H0 H1 : Heap} {h : ix_H} {H : Heap} {locs locs1 : List Loc} (n : Nat) (c' : ix_C) (hD : ix_D cl G H0 h H locs)
    (a : va_P G.1 cl (ix_w G h ++ [(G.2.2.1 + (h.1 - 32), ix_c G c')]) H1) (b : va_D (ix_A G) (ix_w G h ++ [(G.2.2.1 + (h.1 - 32), ix_c G c')])) (d : va_S (ix_A G) H0 H1 locs1) : ix_D cl G H0 (ix_pu h n c') H1 locs1 := by
  rw [ix_w_pu n c' hD.2.2.2] at a b
  exact ⟨a, b, d, Nat.le_succ_of_le hD.2.2.2⟩
theorem ix_ins_lt {mi pc : Nat} {i : Instr} (h : ix_ins mi pc = some i) : mi < 286 := by
  unfold ix_ins at h
  cases hb : (Nat.blt mi ix_NM && Nat.blt pc (ix_sz mi)) with
  | false => rw [hb] at h; cases h
  | true =>
    simp only [Bool.and_eq_true] at hb
    exact Nat.le_of_ble_eq_true hb.1
theorem ix_ini_ok {mi pc : Nat} {i : Instr} (hi : ix_ins mi pc = some i) (h : ix_ini mi = true) : (ix_y mi).name = "<init>" := by
  cases hz : Nat.beq mi 0 with
  | true =>
    have : mi = 0 := Nat.eq_of_beq_eq_true hz
    subst this
    cases h
  | false =>
    obtain ⟨-, -, -, -, -, -, -, hini⟩ := ix_Y (ix_ins_lt hi) (by rw [hz]; rfl)
    exact (hini h).1
theorem ix_fit_v {G : ix_G} {ty : FieldType} {v : Value} (h : fits ty v = true) : fits ty (ix_v G v) = true := by
  cases v with
  | ref r => cases ty <;> first | exact h | cases h
  | retAddr k => cases ty <;> cases h
  | _ => exact h
theorem ix_nar_v {G : ix_G} {ty : FieldType} {v : Value} (hf : fits ty v = true) (h : narrow ty v = v) : narrow ty (ix_v G v) = ix_v G v := by
  cases v with
  | ref r => cases ty <;> rfl
  | retAddr k => cases ty <;> cases hf
  | _ => exact h
theorem ix_al_s {t pc pc' : Nat} {L L' : ix_L} {st st' : List Value} {h h' : ix_H} (hx : ix_al t pc L st h = some (pc', L', st', h')) : ∃ (i : Int32) (r n : Nat) (q : List Value) (f : Nat → Int32), st = .int i :: .ref r :: q ∧ h.2.2 r = .inl (t, n, .inl f) ∧ (32 ≤ r ∨ t = 0) ∧ r < h.1 ∧ vp_in i n ∧ pc' = pc ∧ L' = L ∧ st' = .int (f i.toNatClampNeg) :: q ∧ h' = h := by
  unfold ix_al at hx
  split at hx
  · split at hx
    · next hq =>
      split at hx
      · next z =>
        obtain ⟨rfl, z1, z2, z3, z4⟩ := z
        cases hx
        exact ⟨_, _, _, _, _, rfl, hq, z1, z2, fun w => w.elim z3 (fun y => absurd z4 (Nat.not_lt.mpr y)), rfl, rfl, rfl, rfl⟩
      · cases hx
    · cases hx
  · cases hx
theorem ix_ab_s {pc pc' : Nat} {L L' : ix_L} {st st' : List Value} {h h' : ix_H} (hx : ix_ab pc L st h = some (pc', L', st', h')) : ∃ (i : Int32) (r n : Nat) (q : List Value) (f : Nat → Int32), st = .int i :: .ref r :: q ∧ h.2.2 r = .inl (5, n, .inl f) ∧ r < 32 ∧ vp_in i n ∧ pc' = pc ∧ L' = L ∧ st' = .int (f i.toNatClampNeg) :: q ∧ h' = h := by
  unfold ix_ab at hx
  split at hx
  · split at hx
    · next hq =>
      split at hx
      · next z =>
        obtain ⟨rfl, z2, z3, z4⟩ := z
        cases hx
        exact ⟨_, _, _, _, _, rfl, hq, z2, fun w => w.elim z3 (fun y => absurd z4 (Nat.not_lt.mpr y)), rfl, rfl, rfl, rfl⟩
      · cases hx
    · cases hx
  · cases hx
theorem ix_aL_s {pc pc' : Nat} {L L' : ix_L} {st st' : List Value} {h h' : ix_H} (hx : ix_aL pc L st h = some (pc', L', st', h')) : ∃ (i : Int32) (r n : Nat) (q : List Value) (f : Nat → Int64), st = .int i :: .ref r :: q ∧ h.2.2 r = .inl (1, n, .inr (.inl f)) ∧ 32 ≤ r ∧ r < h.1 ∧ vp_in i n ∧ pc' = pc ∧ L' = L ∧ st' = .long (f i.toNatClampNeg) :: q ∧ h' = h := by
  unfold ix_aL at hx
  split at hx
  · split at hx
    · next hq =>
      split at hx
      · next z =>
        obtain ⟨rfl, z1, z2, z3, z4⟩ := z
        cases hx
        exact ⟨_, _, _, _, _, rfl, hq, z1, z2, fun w => w.elim z3 (fun y => absurd z4 (Nat.not_lt.mpr y)), rfl, rfl, rfl, rfl⟩
      · cases hx
    · cases hx
  · cases hx
theorem ix_aA_s {pc pc' : Nat} {L L' : ix_L} {st st' : List Value} {h h' : ix_H} (hx : ix_aA pc L st h = some (pc', L', st', h')) : ∃ (i : Int32) (r n z : Nat) (q : List Value) (f : Nat → Option Nat), st = .int i :: .ref r :: q ∧ h.2.2 r = .inl (4, n, .inr (.inr (.inr (.inr f)))) ∧ 32 ≤ r ∧ r < h.1 ∧ vp_in i n ∧ f i.toNatClampNeg = some z ∧ pc' = pc ∧ L' = L ∧ st' = .ref z :: q ∧ h' = h := by
  unfold ix_aA at hx
  split at hx
  · split at hx
    · next hq =>
      split at hx
      · next z =>
        obtain ⟨rfl, z1, z2, z3, z4⟩ := z
        split at hx
        · next hz => cases hx; exact ⟨_, _, _, _, _, _, rfl, hq, z1, z2, fun w => w.elim z3 (fun y => absurd z4 (Nat.not_lt.mpr y)), hz, rfl, rfl, rfl, rfl⟩
        · cases hx
      · cases hx
    · cases hx
  · cases hx
theorem ix_as_s {t pc pc' : Nat} {nar : Int32 → Int32} {L L' : ix_L} {st st' : List Value} {h h' : ix_H} (hx : ix_as t nar pc L st h = some (pc', L', st', h')) : ∃ (x i : Int32) (r n : Nat) (f : Nat → Int32), st = .int x :: .int i :: .ref r :: st' ∧ h.2.2 r = .inl (t, n, .inl f) ∧ 32 ≤ r ∧ r < h.1 ∧ vp_in i n ∧ pc' = pc ∧ L' = L ∧ h' = ix_up h r (.inl (t, n, .inl (upd f i.toNatClampNeg (nar x)))) := by
  unfold ix_as at hx
  split at hx
  · split at hx
    · next hq =>
      split at hx
      · next z =>
        obtain ⟨rfl, z1, z2, z3, z4⟩ := z
        cases hx
        exact ⟨_, _, _, _, _, rfl, hq, z1, z2, fun w => w.elim z3 (fun y => absurd z4 (Nat.not_lt.mpr y)), rfl, rfl, rfl⟩
      · cases hx
    · cases hx
  · cases hx
theorem ix_sL_s {pc pc' : Nat} {L L' : ix_L} {st st' : List Value} {h h' : ix_H} (hx : ix_sL pc L st h = some (pc', L', st', h')) : ∃ (x : Int64) (i : Int32) (r n : Nat) (f : Nat → Int64), st = .long x :: .int i :: .ref r :: st' ∧ h.2.2 r = .inl (1, n, .inr (.inl f)) ∧ 32 ≤ r ∧ r < h.1 ∧ vp_in i n ∧ pc' = pc ∧ L' = L ∧ h' = ix_up h r (.inl (1, n, .inr (.inl (vp_updL f i.toNatClampNeg x)))) := by
  unfold ix_sL at hx
  split at hx
  · split at hx
    · next hq =>
      split at hx
      · next z =>
        obtain ⟨rfl, z1, z2, z3, z4⟩ := z
        cases hx
        exact ⟨_, _, _, _, _, rfl, hq, z1, z2, fun w => w.elim z3 (fun y => absurd z4 (Nat.not_lt.mpr y)), rfl, rfl, rfl⟩
      · cases hx
    · cases hx
  · cases hx
theorem ix_sA_s {pc pc' : Nat} {L L' : ix_L} {st st' : List Value} {h h' : ix_H} (hx : ix_sA pc L st h = some (pc', L', st', h')) : ∃ (i : Int32) (r n x : Nat) (f : Nat → Option Nat) (fs : List Value), st = .ref x :: .int i :: .ref r :: st' ∧ h.2.2 r = .inl (4, n, .inr (.inr (.inr (.inr f)))) ∧ h.2.2 x = .inr (ix_cD, fs) ∧ 32 ≤ r ∧ r < h.1 ∧ 32 ≤ x ∧ x < h.1 ∧ vp_in i n ∧ pc' = pc ∧ L' = L ∧ h' = ix_up h r (.inl (4, n, .inr (.inr (.inr (.inr (va_up f i.toNatClampNeg (some x))))))) := by
  unfold ix_sA at hx
  split at hx
  · split at hx
    · next hq hq2 =>
      split at hx
      · next z =>
        obtain ⟨rfl, rfl, z1, z2, y1, y2, z3, z4⟩ := z
        cases hx
        exact ⟨_, _, _, _, _, _, rfl, hq, hq2, z1, z2, y1, y2, fun w => w.elim z3 (fun y => absurd z4 (Nat.not_lt.mpr y)), rfl, rfl, rfl⟩
      · cases hx
    · cases hx
  · cases hx
theorem ix_len_s {pc pc' : Nat} {L L' : ix_L} {st st' : List Value} {h h' : ix_H} (hx : ix_len pc L st h = some (pc', L', st', h')) : ∃ (r t n : Nat) (q : List Value) (x : (Nat → Int32) ⊕ (Nat → Int64) ⊕ (Nat → UInt32) ⊕ (Nat → UInt64) ⊕ (Nat → Option Nat)), st = .ref r :: q ∧ h.2.2 r = .inl (t, n, x) ∧ ((32 ≤ r ∧ t < 5) ∨ (r < 32 ∧ ∃ f, x = .inl f)) ∧ r < h.1 ∧ pc' = pc ∧ L' = L ∧ st' = .int (Int32.ofNat n) :: q ∧ h' = h := by
  unfold ix_len at hx
  split at hx
  · split at hx
    · next hq =>
      split at hx
      · next z =>
        cases hx
        exact ⟨_, _, _, _, _, rfl, hq, (Nat.lt_or_ge _ 32).elim (fun hr => Or.inr ⟨hr, _, rfl⟩) (fun hr => Or.inl ⟨hr, z.1.elim id (fun w => absurd w (Nat.not_lt.mpr hr))⟩), z.2, rfl, rfl, rfl, rfl⟩
      · cases hx
    · next hq =>
      split at hx
      · next z => cases hx; exact ⟨_, _, _, _, _, rfl, hq, Or.inl ⟨z.2.1, z.1⟩, z.2.2, rfl, rfl, rfl, rfl⟩
      · cases hx
    · cases hx
  · cases hx
theorem ix_gf_s {o idx pc pc' : Nat} {L L' : ix_L} {st st' : List Value} {h h' : ix_H} (hx : ix_gf o idx pc L st h = some (pc', L', st', h')) : ∃ (r ci k : Nat) (q fs : List Value) (v : Value), ix_fl o idx = some (ci, k) ∧ st = .ref r :: q ∧ h.2.2 r = .inr (ci, fs) ∧ Nat.blt r 32 = Nat.beq ci 100 ∧ r < h.1 ∧ fs[k]? = some v ∧ pc' = pc ∧ L' = L ∧ st' = v :: q ∧ h' = h := by
  unfold ix_gf at hx
  split at hx
  · next hf =>
    split at hx
    · next hq =>
      split at hx
      · next z =>
        obtain ⟨rfl, z1, z2⟩ := z
        split at hx
        · next hv => cases hx; exact ⟨_, _, _, _, _, _, hf, rfl, hq, z1, z2, hv, rfl, rfl, rfl, rfl⟩
        · cases hx
      · cases hx
    · cases hx
  · cases hx
theorem ix_pf_s {ini : Bool} {o idx pc pc' : Nat} {L L' : ix_L} {st st' : List Value} {h h' : ix_H} (hx : ix_pf ini o idx pc L st h = some (pc', L', st', h')) : ∃ (r ci k : Nat) (fs : List Value) (v : Value), ix_fld o idx = some (ci, k) ∧ st = v :: .ref r :: st' ∧ h.2.2 r = .inr (ci, fs) ∧ 32 ≤ r ∧ r < h.1 ∧ k < fs.length ∧ (ix_fin ci k = true → ini = true ∧ o = ix_oc ci) ∧ narrow (ix_fty ci k) v = v ∧ fits (ix_fty ci k) v = true ∧ pc' = pc ∧ L' = L ∧ h' = ix_up h r (.inr (ci, fs.set k v)) := by
  unfold ix_pf at hx
  split at hx
  · next hf =>
    split at hx
    · next hq =>
      split at hx
      · next z =>
        obtain ⟨rfl, z1, z2, z3, z4, z5, z6⟩ := z
        cases hx
        exact ⟨_, _, _, _, _, hf, rfl, hq, z1, z2, z3, z4, z5, z6, rfl, rfl, rfl⟩
      · cases hx
    · cases hx
  · cases hx
section IXS
variable {p : Program} {l : Launch} {e : Env} {R : Room} {s : State} {m : MethodId} {args : Array Value} {below : List Frame} {meth : Method} {c : Code} {H : Heap} {locs : List Loc} {cells slots : Nat} {Q : State → Prop}
variable {pc : Nat} {ls : Array Slot}
theorem ix_W_size {g : JFrame} (k : H.size ≤ s.heap.size + cells → W p l e R s m args below meth c H locs cells slots Q g) : W p l e R s m args below meth c H locs cells slots Q g := fun T hT X => k (by rw [← hT]; exact X.heapSize) T hT X
theorem ix_x1_ok (G : ix_G) (lo : Nat → ix_C) (mi : Nat) (I : ix_I G lo mi p R s m args meth c) {i : Instr} {L L' : ix_L} {st st' : List Value} {h h' : ix_H} {pc' c0 s0 : Nat} (hi : ix_ins mi pc = some i)
    (hx : ix_x1 (ix_ini mi) (ix_o mi) i pc L st h = some (pc', L', st', h')) (hl : ix_hl G ls L) (hD : ix_D ix_cls G s.heap h H locs) (hlo : ∀ r, r < 32 → h.2.2 r = lo r) (hsz : s.heap.size = G.2.2.1 + (c0 - 32)) (hc0 : 32 ≤ c0) (hc : c0 + cells = h.1) (hs : s0 + slots = h.2.1) (hRc : ix_CM ≤ c0 + R.cells) (hRs : ix_SM ≤ s0 + R.slots) (hCM : h.1 ≤ ix_CM) (hSM : h.2.1 ≤ ix_SM)
    (kk : ∀ (H' : Heap) (locs' : List Loc) (cells' slots' : Nat) (ls' : Array Slot), ix_hl G ls' L' → ix_D ix_cls G s.heap h' H' locs' → (∀ r, r < 32 → h'.2.2 r = lo r) → c0 + cells' = h'.1 → s0 + slots' = h'.2.1 → h'.1 ≤ ix_CM → h'.2.1 ≤ ix_SM → W p l e R s m args below meth c H' locs' cells' slots' Q (F0 m pc' ls' (st'.map (ix_v G)))) :
    W p l e R s m args below meth c H locs cells slots Q (F0 m pc ls (st.map (ix_v G))) := by
  obtain ⟨hexec, hb, hml, hrt, hlk, hnm, hown, hts, hhb, hK, hty, hro, hbs, hfr, hwd⟩ := I
  obtain ⟨len, hd, hn⟩ := ix_ins_ok hi
  obtain ⟨hP, hDD, hS, h32⟩ := id hD
  have d1 : ix_ln i = 1 → decode (ix_by mi) pc = .ok (i, 1) := fun q => by
    rcases hn with z | z
    · omega
    · rw [z, q] at hd; exact hd
  have d2 : ix_ln i = 2 → decode (ix_by mi) pc = .ok (i, 2) := fun q => by
    rcases hn with z | z
    · omega
    · rw [z, q] at hd; exact hd
  have d3 : ix_ln i = 3 → decode (ix_by mi) pc = .ok (i, 3) := fun q => by
    rcases hn with z | z
    · omega
    · rw [z, q] at hd; exact hd
  have hA : ∀ q, s.heap.size ≤ q → ix_A G q := fun q z => Nat.le_trans hbs z
  have htsC : ∀ {C : String} {T : u_T} {N : Nat}, (∀ w ∈ u_ws C T N, w ∈ lw_tbl) → ∀ w ∈ u_ws C T N, w.before args s = true := fun hin w hw => hts w (hin w hw) (ix_lay_gw hw)
  have key : ix_x0 i pc L st h = some (pc', L', st', h') → W p l e R s m args below meth c H locs cells slots Q (F0 m pc ls (st.map (ix_v G))) := fun hx =>
    ix_x0_ok G hexec hb hd hn hx hl (fun e ls' hl' => by subst e; exact kk H locs cells slots ls' hl' hD hlo hc hs hCM hSM)
  have wAt : ∀ {r : Nat} {x : ix_C}, 32 ≤ r → r < h.1 → h.2.2 r = x → (ix_w G h)[r - 32]? = some (ix_a G r, ix_c G x) := fun a b e => by rw [← e]; exact ix_w_at a b
  have loU : ∀ {r : Nat} {x : ix_C}, 32 ≤ r → ∀ q, q < 32 → (ix_up h r x).2.2 q = lo q := fun {r x} a q hq => by
    rw [← hlo q hq]
    simp [ix_up, va_up, show ¬ q = r by omega]
  cases i with
  | iaload =>
    obtain ⟨j, r, n, q, f, rfl, hr, h0, hlt, hin, rfl, rfl, rfl, rfl⟩ := ix_al_s hx
    by_cases hr32 : 32 ≤ r
    · exact va_iald hexec hb hK hP (r - 32) 0 (wAt hr32 hlt hr) (ix_tyAt hty (t := 0) (by omega)) hin (d1 rfl) (kk H locs cells slots ls hl hD hlo hc hs hCM hSM)
    · have e : ix_v G (.ref r) = .ref (G.2.2.2.1 r) := by simp [ix_v, ix_a, show r < 32 by omega]
      have hT := hro.1 r 0 n f (by omega) (by rw [← hlo r (by omega)]; exact hr)
      rw [List.map_cons, List.map_cons, e]
      exact va_ti hexec hb hT hS hin rfl (d1 rfl) (kk H locs cells slots ls hl hD hlo hc hs hCM hSM)
  | caload =>
    obtain ⟨j, r, n, q, f, rfl, hr, h0, hlt, hin, rfl, rfl, rfl, rfl⟩ := ix_al_s hx
    have hr32 : 32 ≤ r := h0.elim id (fun z => by cases z)
    exact va_cald hexec hb hK hP (r - 32) 2 (wAt hr32 hlt hr) (ix_tyAt hty (t := 2) (by omega)) hin (d1 rfl) (kk H locs cells slots ls hl hD hlo hc hs hCM hSM)
  | baload =>
    have hx2 : ix_al 3 (pc + 1) L st h = some (pc', L', st', h') ∨ ix_ab (pc + 1) L st h = some (pc', L', st', h') := by
      simp only [ix_x1] at hx
      split at hx
      · next z hz => left; rw [hz]; exact hx
      · exact Or.inr hx
    rcases hx2 with hx2 | hx2
    · obtain ⟨j, r, n, q, f, rfl, hr, h0, hlt, hin, rfl, rfl, rfl, rfl⟩ := ix_al_s hx2
      have hr32 : 32 ≤ r := h0.elim id (fun z => by cases z)
      exact va_zald hexec hb hK hP (r - 32) 3 (wAt hr32 hlt hr) (ix_tyAt hty (t := 3) (by omega)) hin (d1 rfl) (kk H locs cells slots ls hl hD hlo hc hs hCM hSM)
    · obtain ⟨j, r, n, q, f, rfl, hr, hlt, hin, rfl, rfl, rfl, rfl⟩ := ix_ab_s hx2
      have e : ix_v G (.ref r) = .ref (G.2.2.2.1 r) := by simp [ix_v, ix_a, hlt]
      have hT := hro.1 r 5 n f hlt (by rw [← hlo r hlt]; exact hr)
      rw [List.map_cons, List.map_cons, e]
      exact va_tb hexec hb hT hS hin rfl (d1 rfl) (kk H locs cells slots ls hl hD hlo hc hs hCM hSM)
  | laload =>
    obtain ⟨j, r, n, q, f, rfl, hr, hr32, hlt, hin, rfl, rfl, rfl, rfl⟩ := ix_aL_s hx
    exact va_lald hexec hb hK hP (r - 32) 1 (wAt hr32 hlt hr) (ix_tyAt hty (t := 1) (by omega)) hin (d1 rfl) (kk H locs cells slots ls hl hD hlo hc hs hCM hSM)
  | aaload =>
    obtain ⟨j, r, n, z, q, f, rfl, hr, hr32, hlt, hin, hz, rfl, rfl, rfl, rfl⟩ := ix_aA_s hx
    refine va_aldq hexec hb hK hP (r - 32) 4 (wAt hr32 hlt hr) (ix_tyAt hty (t := 4) (by omega)) hin (d1 rfl) ?_
    have e : va_rf (Option.map (ix_a G) (f j.toNatClampNeg)) = ix_v G (.ref z) := by rw [hz]; rfl
    rw [e]
    exact kk H locs cells slots ls hl hD hlo hc hs hCM hSM
  | iastore =>
    obtain ⟨x, j, r, n, f, rfl, hr, hr32, hlt, hin, rfl, rfl, rfl⟩ := ix_as_s hx
    exact va_iast hexec hb hK hP hDD hS (r - 32) 0 (wAt hr32 hlt hr) (ix_tyAt hty (t := 0) (by omega)) hin (d1 rfl) (fun H1 locs1 a b d => kk H1 locs1 cells slots ls hl (hD.put _ hr32 hlt a b d) (loU hr32) hc hs hCM hSM)
  | castore =>
    obtain ⟨x, j, r, n, f, rfl, hr, hr32, hlt, hin, rfl, rfl, rfl⟩ := ix_as_s hx
    exact va_cast hexec hb hK hP hDD hS (r - 32) 2 (wAt hr32 hlt hr) (ix_tyAt hty (t := 2) (by omega)) hin (d1 rfl) (fun H1 locs1 a b d => kk H1 locs1 cells slots ls hl (hD.put _ hr32 hlt a b d) (loU hr32) hc hs hCM hSM)
  | bastore =>
    obtain ⟨x, j, r, n, f, rfl, hr, hr32, hlt, hin, rfl, rfl, rfl⟩ := ix_as_s hx
    exact va_zast hexec hb hK hP hDD hS (r - 32) 3 (wAt hr32 hlt hr) (ix_tyAt hty (t := 3) (by omega)) hin (d1 rfl) (fun H1 locs1 a b d => kk H1 locs1 cells slots ls hl (hD.put _ hr32 hlt a b d) (loU hr32) hc hs hCM hSM)
  | lastore =>
    obtain ⟨x, j, r, n, f, rfl, hr, hr32, hlt, hin, rfl, rfl, rfl⟩ := ix_sL_s hx
    exact va_last hexec hb hK hP hDD hS (r - 32) 1 (wAt hr32 hlt hr) (ix_tyAt hty (t := 1) (by omega)) hin (d1 rfl) (fun H1 locs1 a b d => kk H1 locs1 cells slots ls hl (hD.put _ hr32 hlt a b d) (loU hr32) hc hs hCM hSM)
  | aastore =>
    obtain ⟨j, r, n, x, f, fs, rfl, hr, hx0, hr32, hlt, hx32, hxlt, hin, rfl, rfl, rfl⟩ := ix_sA_s hx
    obtain ⟨T5, N5, hcD⟩ := ix_cD_ok
    refine va_astq (r := (ix_nD, T5, N5)) hexec hb hK hP hDD hS (r - 32) 4 (x - 32) ix_cD (wAt hr32 hlt hr) (ix_tyAt hty (t := 4) (by omega)) (wAt hx32 hxlt hx0) hcD hin (d1 rfl) (fun H1 locs1 a b d => kk H1 locs1 cells slots ls hl (hD.put _ hr32 hlt ?_ ?_ d) (loU hr32) hc hs hCM hSM)
    · have e : ix_c G (.inl (4, n, .inr (.inr (.inr (.inr (va_up f j.toNatClampNeg (some x))))))) = .inl (ix_k G 4, n, .inr (.inr (.inr (.inr (va_up (fun z => Option.map (ix_a G) (f z)) j.toNatClampNeg (some (ix_a G x))))))) := by
        simp only [ix_c, ix_x5]
        congr 7
        funext z
        by_cases hz : z = j.toNatClampNeg <;> simp [va_up, hz]
      rw [e]; exact a
    · have e : ix_c G (.inl (4, n, .inr (.inr (.inr (.inr (va_up f j.toNatClampNeg (some x))))))) = .inl (ix_k G 4, n, .inr (.inr (.inr (.inr (va_up (fun z => Option.map (ix_a G) (f z)) j.toNatClampNeg (some (ix_a G x))))))) := by
        simp only [ix_c, ix_x5]
        congr 7
        funext z
        by_cases hz : z = j.toNatClampNeg <;> simp [va_up, hz]
      rw [e]; exact b
  | arraylength =>
    obtain ⟨r, t, n, q, x, rfl, hr, h0, hlt, rfl, rfl, rfl, rfl⟩ := ix_len_s hx
    rcases h0 with ⟨hr32, ht5⟩ | ⟨hr32, f, rfl⟩
    · exact va_alen hexec hb hK hP (r - 32) t (wAt hr32 hlt hr) (ix_tyAt hty ht5) rfl (d1 rfl) (kk H locs cells slots ls hl hD hlo hc hs hCM hSM)
    · have e : ix_v G (.ref r) = .ref (G.2.2.2.1 r) := by simp [ix_v, ix_a, hr32]
      have hT := hro.1 r t n f hr32 (by rw [← hlo r hr32]; exact hr)
      rw [List.map_cons, e]
      exact va_tlen hexec hb hT hS rfl (d1 rfl) (kk H locs cells slots ls hl hD hlo hc hs hCM hSM)
  | getfield idx =>
    obtain ⟨r, ci, k, q, fs, v, hf, rfl, hr, h100, hlt, hv, rfl, rfl, rfl, rfl⟩ := ix_gf_s hx
    rcases ix_fl_ok hf with hf | ⟨rfl, hk⟩
    · obtain ⟨C, T, N, hcl, hk, hlink⟩ := ix_fld_ok hf
      obtain ⟨hin, hpt, hnm2, hdec, -⟩ := ix_cls_ok hcl
      have hr32 : 32 ≤ r := by
        rcases Nat.lt_or_ge r 32 with z | z
        · exfalso
          rw [show Nat.blt r 32 = true from Nat.ble_eq_true_of_le z] at h100
          have : ci = 100 := Nat.eq_of_beq_eq_true h100.symm
          have h2 := (List.getElem?_eq_some_iff.mp hcl).1
          rw [ix_cls_len] at h2
          omega
        · exact z
      exact va_get hexec hb (htsC hin) (fun w h => h) hown hK hP (r - 32) (wAt hr32 hlt hr) hcl k hk (hts _ hlink rfl) (fun x hx => by rw [(hdec k hk).1] at hx; exact hx) (v := ix_v G v) (by rw [List.getElem?_map, hv]; rfl) (d3 rfl) (kk H locs cells slots ls hl hD hlo hc hs hCM hSM)
    · have hr32 : r < 32 := Nat.le_of_ble_eq_true h100
      have e : ix_v G (.ref r) = .ref (G.2.2.2.1 r) := by simp [ix_v, ix_a, hr32]
      obtain ⟨hO, hF0, hF1⟩ := hro.2.2.2.2 r fs hr32 (by rw [← hlo r hr32]; exact hr)
      rw [List.map_cons, e]
      rcases hk with ⟨rfl, hlink⟩ | ⟨rfl, hlink⟩
      · exact vk_getf hexec hb (hF0 v hv) hS hown (hts _ hlink rfl) (fun x hx => hx) (d3 rfl) (kk H locs cells slots ls hl hD hlo hc hs hCM hSM)
      · exact vk_getf hexec hb (hF1 v hv) hS hown (hts _ hlink rfl) (fun x hx => hx) (d3 rfl) (kk H locs cells slots ls hl hD hlo hc hs hCM hSM)
  | putfield idx =>
    obtain ⟨r, ci, k, fs, v, hf, rfl, hr, hr32, hlt, hkl, hfi, hnar, hfit, rfl, rfl, rfl⟩ := ix_pf_s hx
    obtain ⟨C, T, N, hcl, hk, hlink⟩ := ix_fld_ok hf
    obtain ⟨hin, hpt, hnm2, hdec, hoc⟩ := ix_cls_ok hcl
    have em : ix_c G (.inr (ci, fs.set k v)) = .inr (ci, (fs.map (ix_v G)).set k (ix_v G v)) := by
      simp only [ix_c, List.map_set]
    have kk2 : ∀ (H1 : Heap) (locs1 : List Loc), va_P G.1 ix_cls ((ix_w G h).set (r - 32) (ix_a G r, .inr (ci, (fs.map (ix_v G)).set k (ix_v G v)))) H1 → va_D (ix_A G) ((ix_w G h).set (r - 32) (ix_a G r, .inr (ci, (fs.map (ix_v G)).set k (ix_v G v)))) → va_S (ix_A G) s.heap H1 locs1 → W p l e R s m args below meth c H1 locs1 cells slots Q (F0 m (pc + 3) ls (st'.map (ix_v G))) := by
      intro H1 locs1 a b d
      rw [← em] at a b
      exact kk H1 locs1 cells slots ls hl (hD.put _ hr32 hlt a b d) (loU hr32) hc hs hCM hSM
    by_cases hfin : ix_fin ci k = true
    · obtain ⟨hini, ho⟩ := hfi hfin
      exact va_putF hexec hb (htsC hin) (fun w h => h) (ix_fty ci) hpt hnm2 hown hK hP hDD hS (r - 32) (wAt hr32 hlt hr) hcl k hk (hts _ hlink rfl) (fun x hx => by rw [(hdec k hk).1] at hx; exact hx) (by rw [(hdec k hk).2]; exact hfin) (by rw [hnm]; exact ix_ini_ok hi hini) (by rw [(hdec k hk).1, hoc (Nat.lt_of_le_of_lt (Nat.zero_le _) hk), ← ho]) (hpt k hk) (ix_nar_v hfit hnar) (ix_fit_v hfit) (by rw [List.length_map]; exact hkl) (d3 rfl) kk2
    · exact va_put hexec hb (htsC hin) (fun w h => h) (ix_fty ci) hpt hnm2 hown hK hP hDD hS (r - 32) (wAt hr32 hlt hr) hcl k hk (hts _ hlink rfl) (fun x hx => by rw [(hdec k hk).1] at hx; exact hx) (by rw [(hdec k hk).2]; simpa using hfin) (hpt k hk) (ix_nar_v hfit hnar) (ix_fit_v hfit) (by rw [List.length_map]; exact hkl) (d3 rfl) kk2
  | newarray at0 =>
    have hx2 : ∃ (j : Int32) (q : List Value), st = .int j :: q ∧ ¬ j < 0 ∧ j.toNatClampNeg ≤ 100000 ∧ h.1 < ix_CM ∧ h.2.1 + j.toNatClampNeg ≤ ix_SM ∧ pc' = pc + 2 ∧ L' = L ∧ st' = .ref h.1 :: q ∧
        ((at0 = .int ∧ h' = ix_pu h j.toNatClampNeg (.inl (0, j.toNatClampNeg, .inl fun _ => 0))) ∨ (at0 = .long ∧ h' = ix_pu h j.toNatClampNeg (.inl (1, j.toNatClampNeg, .inr (.inl fun _ => 0)))) ∨ (at0 = .char ∧ h' = ix_pu h j.toNatClampNeg (.inl (2, j.toNatClampNeg, .inl fun _ => 0))) ∨ (at0 = .boolean ∧ h' = ix_pu h j.toNatClampNeg (.inl (3, j.toNatClampNeg, .inl fun _ => 0)))) := by
      simp only [ix_x1, ix_na] at hx
      split at hx
      · split at hx
        · next z =>
          obtain ⟨z1, z2, z3, z4⟩ := z
          split at hx
          · cases hx; exact ⟨_, _, rfl, z1, z2, z3, z4, rfl, rfl, rfl, Or.inl ⟨rfl, rfl⟩⟩
          · cases hx; exact ⟨_, _, rfl, z1, z2, z3, z4, rfl, rfl, rfl, Or.inr (Or.inl ⟨rfl, rfl⟩)⟩
          · cases hx; exact ⟨_, _, rfl, z1, z2, z3, z4, rfl, rfl, rfl, Or.inr (Or.inr (Or.inl ⟨rfl, rfl⟩))⟩
          · cases hx; exact ⟨_, _, rfl, z1, z2, z3, z4, rfl, rfl, rfl, Or.inr (Or.inr (Or.inr ⟨rfl, rfl⟩))⟩
          · cases hx
        · cases hx
      · cases hx
    obtain ⟨j, q, rfl, hj, hj2, hcm, hsm, rfl, rfl, rfl, hor⟩ := hx2
    have cont : ∀ (t : Nat) (ty : FieldType) (a0 : (Nat → Int32) ⊕ (Nat → Int64) ⊕ (Nat → UInt32) ⊕ (Nat → UInt64) ⊕ (Nat → Option Nat)), t < 4 → ix_ty t = ty → ix_x5 G a0 = a0 → h' = ix_pu h j.toNatClampNeg (.inl (t, j.toNatClampNeg, a0)) → ∀ (qa : Nat) (cA : ClassId) (H1 : Heap), va_K G.1 ix_cls (G.2.1 ++ [(cA, ty)]) s → va_P G.1 ix_cls (ix_w G h ++ [(qa, .inl (cA, j.toNatClampNeg, a0))]) H1 → va_D (ix_A G) (ix_w G h ++ [(qa, .inl (cA, j.toNatClampNeg, a0))]) → va_S (ix_A G) s.heap H1 locs →
        W p l e R s m args below meth c H1 locs (cells + 1) (slots + j.toNatClampNeg) Q (F0 m (pc + 2) ls (.ref qa :: q.map (ix_v G))) := by
      intro t ty a0 ht hty0 hx5 hh qa cA H1 k1 k2 k3 k4
      refine ix_W_size fun hsz1 => ?_
      have eq := ix_new_at h32 k2 k3 (by omega)
      subst eq
      have eA : cA = ix_k G t := by
        have f1 := (k1.2 G.2.1.length (cA, ty) (by rw [List.getElem?_append_right (Nat.le_refl _), Nat.sub_self]; rfl)).2
        have f2 := (hK.2 t _ (ix_tyAt hty (t := t) (by omega))).2
        rw [hty0] at f2
        have hno : ∀ C, ty ≠ .object C := by
          intro C; rw [← hty0]
          have : t = 0 ∨ t = 1 ∨ t = 2 ∨ t = 3 := by omega
          rcases this with rfl | rfl | rfl | rfl <;> (intro z; cases z)
        cases ty <;> first | exact absurd rfl (hno _) | exact Option.some.inj (f1.symm.trans f2)
      subst eA
      have ec : (Sum.inl (ix_k G t, j.toNatClampNeg, a0) : va_E) = ix_c G (.inl (t, j.toNatClampNeg, a0)) := by simp only [ix_c, hx5]
      rw [ec] at k2 k3
      have := kk H1 locs (cells + 1) (slots + j.toNatClampNeg) ls hl (by rw [hh]; exact hD.push _ _ k2 k3 k4) (by rw [hh]; intro r hr; rw [← hlo r hr]; simp [ix_pu, va_up, show ¬ r = h.1 by omega]) (by rw [hh]; show c0 + (cells + 1) = h.1 + 1; omega) (by rw [hh]; show s0 + (slots + _) = h.2.1 + _; omega) (by rw [hh]; exact hcm) (by rw [hh]; exact hsm)
      rw [List.map_cons] at this
      have e2 : ix_v G (.ref h.1) = .ref (G.2.2.1 + (h.1 - 32)) := by simp [ix_v, ix_a_new h32]
      rwa [e2] at this
    obtain ⟨w0, w1, w2, w3⟩ := ix_arr_ok
    rcases hor with ⟨rfl, hh⟩ | ⟨rfl, hh⟩ | ⟨rfl, hh⟩ | ⟨rfl, hh⟩
    · exact va_newa (atype := .int) hexec hb (hts _ w0 rfl) rfl hK hP hDD hS hA (a0 := (j.toNatClampNeg, .inl fun _ => 0)) (fun cA => rfl) hj rfl (by show _ * 4 ≤ _; omega) (by omega) (by omega) (d2 rfl) (cont 0 .int _ (by omega) rfl rfl hh)
    · exact va_newa (atype := .long) hexec hb (hts _ w1 rfl) rfl hK hP hDD hS hA (a0 := (j.toNatClampNeg, .inr (.inl fun _ => 0))) (fun cA => rfl) hj rfl (by show _ * 8 ≤ _; omega) (by omega) (by omega) (d2 rfl) (cont 1 .long _ (by omega) rfl rfl hh)
    · exact va_newa (atype := .char) hexec hb (hts _ w2 rfl) rfl hK hP hDD hS hA (a0 := (j.toNatClampNeg, .inl fun _ => 0)) (fun cA => rfl) hj rfl (by show _ * 2 ≤ _; omega) (by omega) (by omega) (d2 rfl) (cont 2 .char _ (by omega) rfl rfl hh)
    · exact va_newa (atype := .boolean) hexec hb (hts _ w3 rfl) rfl hK hP hDD hS hA (a0 := (j.toNatClampNeg, .inl fun _ => 0)) (fun cA => rfl) hj rfl (by show _ * 1 ≤ _; omega) (by omega) (by omega) (d2 rfl) (cont 3 .boolean _ (by omega) rfl rfl hh)
  | anewarray idx =>
    have hx2 : ∃ (j : Int32) (q : List Value), st = .int j :: q ∧ ix_anw (ix_o mi) idx = true ∧ ¬ j < 0 ∧ j.toNatClampNeg ≤ 100000 ∧ h.1 < ix_CM ∧ h.2.1 + j.toNatClampNeg ≤ ix_SM ∧ pc' = pc + 3 ∧ L' = L ∧ st' = .ref h.1 :: q ∧ h' = ix_pu h j.toNatClampNeg (.inl (4, j.toNatClampNeg, .inr (.inr (.inr (.inr fun _ => none))))) := by
      simp only [ix_x1, ix_nq] at hx
      split at hx
      · split at hx
        · next z =>
          obtain ⟨z0, z1, z2, z3, z4⟩ := z
          cases hx; exact ⟨_, _, rfl, z0, z1, z2, z3, z4, rfl, rfl, rfl, rfl⟩
        · cases hx
      · cases hx
    obtain ⟨j, q, rfl, hanw, hj, hj2, hcm, hsm, rfl, rfl, rfl, rfl⟩ := hx2
    obtain ⟨wl, wo⟩ := ix_anw_ok hanw
    refine va_newq hexec hb hown (hts _ wl rfl) (va_AO.of (hts _ wo rfl)) hK hP hDD hS hA hj rfl (by omega) (by omega) (by omega) (d3 rfl) fun qa cA H1 k1 k2 k3 k4 => ix_W_size fun hsz1 => ?_
    have eq := ix_new_at h32 k2 k3 (by omega)
    subst eq
    have eA : cA = ix_k G 4 := by
      obtain ⟨-, -, -, -, -, f1⟩ := (k1.2 G.2.1.length (cA, .object ix_nD) (by rw [List.getElem?_append_right (Nat.le_refl _), Nat.sub_self]; rfl)).2
      obtain ⟨-, -, -, -, -, f2⟩ := (hK.2 4 _ (ix_tyAt hty (t := 4) (by omega))).2
      exact Option.some.inj (f1.symm.trans f2)
    subst eA
    have := kk H1 locs (cells + 1) (slots + j.toNatClampNeg) ls hl (hD.push j.toNatClampNeg (.inl (4, j.toNatClampNeg, .inr (.inr (.inr (.inr fun _ => none))))) k2 k3 k4) (by intro r hr; rw [← hlo r hr]; simp [ix_pu, va_up, show ¬ r = h.1 by omega]) (by show c0 + (cells + 1) = h.1 + 1; omega) (by show s0 + (slots + _) = h.2.1 + _; omega) hcm hsm
    rw [List.map_cons] at this
    have e2 : ix_v G (.ref h.1) = .ref (G.2.2.1 + (h.1 - 32)) := by simp [ix_v, ix_a_new h32]
    rwa [e2] at this
  | new idx =>
    have hx2 : ∃ ci, ix_nw (ix_o mi) idx = some ci ∧ h.1 < ix_CM ∧ h.2.1 + (ix_dv ci).length ≤ ix_SM ∧ pc' = pc + 3 ∧ L' = L ∧ st' = .ref h.1 :: st ∧ h' = ix_pu h (ix_dv ci).length (.inr (ci, ix_dv ci)) := by
      simp only [ix_x1, ix_no] at hx
      split at hx
      · next ci hci =>
        split at hx
        · next z => cases hx; exact ⟨_, hci, z.1, z.2, rfl, rfl, rfl, rfl⟩
        · cases hx
      · cases hx
    obtain ⟨ci, hnw, hcm, hsm, rfl, rfl, rfl, rfl⟩ := hx2
    obtain ⟨C, T, N, hcl, wl, wi, wn, hN, hdv, hdr⟩ := ix_nw_ok hnw
    obtain ⟨hin, hpt, -, -, -⟩ := ix_cls_ok hcl
    have em : ix_c G (.inr (ci, ix_dv ci)) = .inr (ci, ix_dv ci) := by
      simp only [ix_c]
      congr 2
      refine (List.map_congr_left (g := id) (fun v hv => ?_)).trans (List.map_id _)
      obtain ⟨j, hj, rfl⟩ := List.mem_iff_getElem.mp hv
      have q := hdv j (by omega)
      have e : vp_V (ix_dv ci) j = (ix_dv ci)[j] := by simp [vp_V, List.getD, hj]
      rw [← e, ← q]
      generalize ix_fty ci j = ty
      cases ty <;> rfl
    rw [hN] at hsm kk
    refine va_new hexec hb (htsC hin) (fun w h => h) (ix_fty ci) hpt hown (hts _ wl rfl) (hts _ wi rfl) (hts _ wn rfl) hK hP hDD hS hA hcl (fs := ix_dv ci) hdv (by omega) (by omega) (d3 rfl) fun qa H1 k2 k3 k4 => ix_W_size fun hsz1 => ?_
    have eq := ix_new_at h32 k2 k3 (by omega)
    subst eq
    rw [← em] at k2 k3
    have := kk H1 locs (cells + 1) (slots + N) ls hl (hD.push _ _ k2 k3 k4) (by intro r hr; rw [← hlo r hr]; simp [ix_pu, va_up, show ¬ r = h.1 by omega]) (by show c0 + (cells + 1) = h.1 + 1; omega) (by show s0 + (slots + _) = h.2.1 + _; omega) hcm hsm
    rw [List.map_cons] at this
    have e2 : ix_v G (.ref h.1) = .ref (G.2.2.1 + (h.1 - 32)) := by simp [ix_v, ix_a_new h32]
    rwa [e2] at this
  | getstatic idx =>
    simp only [ix_x1] at hx
    cases hg : ix_gv (ix_o mi) idx with
    | none => rw [hg] at hx; cases hx
    | some v =>
      rw [hg] at hx
      cases hx
      obtain ⟨C, nm, d, hZ, hlink⟩ := hro.2.1 _ _ _ hg
      exact va_gets hexec hb hZ hS hown (hts _ hlink rfl) (fun x hx => hx) (d3 rfl) (kk H locs cells slots ls hl hD hlo hc hs hCM hSM)
  | ldc idx =>
    simp only [ix_x1, ix_kv] at hx
    cases hg : ix_kc (ix_o mi) idx with
    | some r =>
      rw [hg] at hx
      cases hx
      obtain ⟨x, rfl, hw⟩ := ix_kc_ok hg
      exact lv_ldc hexec hb hown (hts _ hw rfl) (d2 rfl) (kk H locs cells slots ls hl hD hlo hc hs hCM hSM)
    | none =>
      rw [hg] at hx
      simp only at hx
      cases hg2 : ix_ks (ix_o mi) idx with
      | none => rw [hg2] at hx; cases hx
      | some r =>
        rw [hg2] at hx
        cases hx
        obtain ⟨hr, tx, hR⟩ := hro.2.2.2.1 _ _ _ hg2
        have e : ix_v G (.ref r) = .ref (G.2.2.2.1 r) := by simp [ix_v, ix_a, hr]
        have := kk H locs cells slots ls hl hD hlo hc hs hCM hSM
        rw [List.map_cons, e] at this
        exact va_ldcS hexec hb hown hR (d2 rfl) this
  | ldc_w idx =>
    simp only [ix_x1] at hx
    cases hg : ix_kc (ix_o mi) idx with
    | none => rw [hg] at hx; cases hx
    | some r =>
      rw [hg] at hx
      cases hx
      obtain ⟨x, rfl, hw⟩ := ix_kc_ok hg
      exact lv_ldcw hexec hb hown (hts _ hw rfl) (d3 rfl) (kk H locs cells slots ls hl hD hlo hc hs hCM hSM)
  | ldc2_w idx =>
    simp only [ix_x1] at hx
    cases hg : ix_kl (ix_o mi) idx with
    | none => rw [hg] at hx; cases hx
    | some r =>
      rw [hg] at hx
      cases hx
      exact lv_ldc2 hexec hb hown (hts _ (ix_kl_ok hg) rfl) (d3 rfl) (kk H locs cells slots ls hl hD hlo hc hs hCM hSM)
  | _ => exact key hx
end IXS
