/-! ===== instructions that look at locals and operands alone ===== -/
def ix_ii (f : Int32 → Int32 → Int32) (pc : Nat) (L : ix_L) (st : List Value) (h : ix_H) : Option ix_S := match st with
  | .int y :: .int x :: r => some (pc, L, .int (f x y) :: r, h)
  | _ => none
theorem ix_ii_s {f : Int32 → Int32 → Int32} {pc pc' : Nat} {L L' : ix_L} {st st' : List Value} {h h' : ix_H} (hx : ix_ii f pc L st h = some (pc', L', st', h')) : ∃ x y r, st = .int y :: .int x :: r ∧ pc' = pc ∧ L' = L ∧ st' = .int (f x y) :: r ∧ h' = h := by
  unfold ix_ii at hx
  split at hx
  · cases hx; exact ⟨_, _, _, rfl, rfl, rfl, rfl, rfl⟩
  · cases hx
def ix_id (f : Int32 → Int32 → Int32) (pc : Nat) (L : ix_L) (st : List Value) (h : ix_H) : Option ix_S := match st with
  | .int y :: .int x :: r => if y = 0 then none else some (pc, L, .int (f x y) :: r, h)
  | _ => none
theorem ix_id_s {f : Int32 → Int32 → Int32} {pc pc' : Nat} {L L' : ix_L} {st st' : List Value} {h h' : ix_H} (hx : ix_id f pc L st h = some (pc', L', st', h')) : ∃ x y r, ¬ y = 0 ∧ st = .int y :: .int x :: r ∧ pc' = pc ∧ L' = L ∧ st' = .int (f x y) :: r ∧ h' = h := by
  unfold ix_id at hx
  split at hx
  · split at hx
    · cases hx
    · next hn => cases hx; exact ⟨_, _, _, hn, rfl, rfl, rfl, rfl, rfl⟩
  · cases hx
def ix_l2 (f : Int64 → Int64 → Int64) (pc : Nat) (L : ix_L) (st : List Value) (h : ix_H) : Option ix_S := match st with
  | .long y :: .long x :: r => some (pc, L, .long (f x y) :: r, h)
  | _ => none
theorem ix_l2_s {f : Int64 → Int64 → Int64} {pc pc' : Nat} {L L' : ix_L} {st st' : List Value} {h h' : ix_H} (hx : ix_l2 f pc L st h = some (pc', L', st', h')) : ∃ x y r, st = .long y :: .long x :: r ∧ pc' = pc ∧ L' = L ∧ st' = .long (f x y) :: r ∧ h' = h := by
  unfold ix_l2 at hx
  split at hx
  · cases hx; exact ⟨_, _, _, rfl, rfl, rfl, rfl, rfl⟩
  · cases hx
def ix_ld (f : Int64 → Int64 → Int64) (pc : Nat) (L : ix_L) (st : List Value) (h : ix_H) : Option ix_S := match st with
  | .long y :: .long x :: r => if y = 0 then none else some (pc, L, .long (f x y) :: r, h)
  | _ => none
theorem ix_ld_s {f : Int64 → Int64 → Int64} {pc pc' : Nat} {L L' : ix_L} {st st' : List Value} {h h' : ix_H} (hx : ix_ld f pc L st h = some (pc', L', st', h')) : ∃ x y r, ¬ y = 0 ∧ st = .long y :: .long x :: r ∧ pc' = pc ∧ L' = L ∧ st' = .long (f x y) :: r ∧ h' = h := by
  unfold ix_ld at hx
  split at hx
  · split at hx
    · cases hx
    · next hn => cases hx; exact ⟨_, _, _, hn, rfl, rfl, rfl, rfl, rfl⟩
  · cases hx
def ix_lS (f : Int64 → Int32 → Int64) (pc : Nat) (L : ix_L) (st : List Value) (h : ix_H) : Option ix_S := match st with
  | .int y :: .long x :: r => some (pc, L, .long (f x y) :: r, h)
  | _ => none
theorem ix_lS_s {f : Int64 → Int32 → Int64} {pc pc' : Nat} {L L' : ix_L} {st st' : List Value} {h h' : ix_H} (hx : ix_lS f pc L st h = some (pc', L', st', h')) : ∃ x y r, st = .int y :: .long x :: r ∧ pc' = pc ∧ L' = L ∧ st' = .long (f x y) :: r ∧ h' = h := by
  unfold ix_lS at hx
  split at hx
  · cases hx; exact ⟨_, _, _, rfl, rfl, rfl, rfl, rfl⟩
  · cases hx
def ix_i1 (f : Int32 → Value) (pc : Nat) (L : ix_L) (st : List Value) (h : ix_H) : Option ix_S := match st with
  | .int x :: r => some (pc, L, f x :: r, h)
  | _ => none
theorem ix_i1_s {f : Int32 → Value} {pc pc' : Nat} {L L' : ix_L} {st st' : List Value} {h h' : ix_H} (hx : ix_i1 f pc L st h = some (pc', L', st', h')) : ∃ x r, st = .int x :: r ∧ pc' = pc ∧ L' = L ∧ st' = f x :: r ∧ h' = h := by
  unfold ix_i1 at hx
  split at hx
  · cases hx; exact ⟨_, _, rfl, rfl, rfl, rfl, rfl⟩
  · cases hx
def ix_l1 (f : Int64 → Value) (pc : Nat) (L : ix_L) (st : List Value) (h : ix_H) : Option ix_S := match st with
  | .long x :: r => some (pc, L, f x :: r, h)
  | _ => none
theorem ix_l1_s {f : Int64 → Value} {pc pc' : Nat} {L L' : ix_L} {st st' : List Value} {h h' : ix_H} (hx : ix_l1 f pc L st h = some (pc', L', st', h')) : ∃ x r, st = .long x :: r ∧ pc' = pc ∧ L' = L ∧ st' = f x :: r ∧ h' = h := by
  unfold ix_l1 at hx
  split at hx
  · cases hx; exact ⟨_, _, rfl, rfl, rfl, rfl, rfl⟩
  · cases hx
def ix_lc (pc : Nat) (L : ix_L) (st : List Value) (h : ix_H) : Option ix_S := match st with
  | .long y :: .long x :: r => some (pc, L, .int (lg_cmp x y) :: r, h)
  | _ => none
theorem ix_lc_s {pc pc' : Nat} {L L' : ix_L} {st st' : List Value} {h h' : ix_H} (hx : ix_lc pc L st h = some (pc', L', st', h')) : ∃ x y r, st = .long y :: .long x :: r ∧ pc' = pc ∧ L' = L ∧ st' = .int (lg_cmp x y) :: r ∧ h' = h := by
  unfold ix_lc at hx
  split at hx
  · cases hx; exact ⟨_, _, _, rfl, rfl, rfl, rfl, rfl⟩
  · cases hx
def ix_lo (k pc i : Nat) (L : ix_L) (st : List Value) (h : ix_H) : Option ix_S := match k, L.getD i none with
  | 0, some (.int x) => some (pc, L, .int x :: st, h)
  | 1, some (.long x) => some (pc, L, .long x :: st, h)
  | 2, some (.ref x) => some (pc, L, .ref x :: st, h)
  | _, _ => none
theorem ix_lo_s {k pc i pc' : Nat} {L L' : ix_L} {st st' : List Value} {h h' : ix_H} (hx : ix_lo k pc i L st h = some (pc', L', st', h')) : ∃ v, L[i]? = some (some v) ∧ pc' = pc ∧ L' = L ∧ st' = v :: st ∧ h' = h ∧ ((k = 0 ∧ ∃ x, v = .int x) ∨ (k = 1 ∧ ∃ x, v = .long x) ∨ (k = 2 ∧ ∃ x, v = .ref x)) := by
  have key : ∀ v, L.getD i none = some v → L[i]? = some (some v) := by
    intro v hv
    rw [List.getD_eq_getElem?_getD] at hv
    cases hq : L[i]? with
    | none => rw [hq] at hv; simp at hv
    | some z => rw [hq] at hv; simp at hv; rw [hv]
  unfold ix_lo at hx
  split at hx
  · next hv => cases hx; exact ⟨_, key _ hv, rfl, rfl, rfl, rfl, Or.inl ⟨rfl, _, rfl⟩⟩
  · next hv => cases hx; exact ⟨_, key _ hv, rfl, rfl, rfl, rfl, Or.inr (Or.inl ⟨rfl, _, rfl⟩)⟩
  · next hv => cases hx; exact ⟨_, key _ hv, rfl, rfl, rfl, rfl, Or.inr (Or.inr ⟨rfl, _, rfl⟩)⟩
  · cases hx
def ix_so (k pc i : Nat) (L : ix_L) (st : List Value) (h : ix_H) : Option ix_S := match k, st with
  | 0, .int x :: r => if i < L.length then some (pc, ix_st1 L i (.int x), r, h) else none
  | 1, .long x :: r => if i + 1 < L.length then some (pc, ix_st2 L i (.long x), r, h) else none
  | 2, .ref x :: r => if i < L.length then some (pc, ix_st1 L i (.ref x), r, h) else none
  | _, _ => none
theorem ix_so0_s {pc i pc' : Nat} {L L' : ix_L} {st st' : List Value} {h h' : ix_H} (hx : ix_so 0 pc i L st h = some (pc', L', st', h')) : ∃ x, i < L.length ∧ st = .int x :: st' ∧ pc' = pc ∧ L' = ix_st1 L i (.int x) ∧ h' = h := by
  simp only [ix_so] at hx
  split at hx
  · split at hx
    · next hi => cases hx; exact ⟨_, hi, rfl, rfl, rfl, rfl⟩
    · cases hx
  · next q => simp at q
  · next q => simp at q
  · cases hx
theorem ix_so1_s {pc i pc' : Nat} {L L' : ix_L} {st st' : List Value} {h h' : ix_H} (hx : ix_so 1 pc i L st h = some (pc', L', st', h')) : ∃ x, i + 1 < L.length ∧ st = .long x :: st' ∧ pc' = pc ∧ L' = ix_st2 L i (.long x) ∧ h' = h := by
  simp only [ix_so] at hx
  split at hx
  · next q => simp at q
  · split at hx
    · next hi => cases hx; exact ⟨_, hi, rfl, rfl, rfl, rfl⟩
    · cases hx
  · next q => simp at q
  · cases hx
theorem ix_so2_s {pc i pc' : Nat} {L L' : ix_L} {st st' : List Value} {h h' : ix_H} (hx : ix_so 2 pc i L st h = some (pc', L', st', h')) : ∃ x, i < L.length ∧ st = .ref x :: st' ∧ pc' = pc ∧ L' = ix_st1 L i (.ref x) ∧ h' = h := by
  simp only [ix_so] at hx
  split at hx
  · next q => simp at q
  · next q => simp at q
  · split at hx
    · next hi => cases hx; exact ⟨_, hi, rfl, rfl, rfl, rfl⟩
    · cases hx
  · cases hx
def ix_in (pc i : Nat) (n : Int) (L : ix_L) (st : List Value) (h : ix_H) : Option ix_S := match L.getD i none with
  | some (.int x) => some (pc, ix_st1 L i (.int (x + Int32.ofInt n)), st, h)
  | _ => none
theorem ix_in_s {pc i pc' : Nat} {n : Int} {L L' : ix_L} {st st' : List Value} {h h' : ix_H} (hx : ix_in pc i n L st h = some (pc', L', st', h')) : ∃ x, L[i]? = some (some (.int x)) ∧ pc' = pc ∧ L' = ix_st1 L i (.int (x + Int32.ofInt n)) ∧ st' = st ∧ h' = h := by
  unfold ix_in at hx
  split at hx
  · next hv =>
    cases hx
    refine ⟨_, ?_, rfl, rfl, rfl, rfl⟩
    rw [List.getD_eq_getElem?_getD] at hv
    cases hq : L[i]? with
    | none => rw [hq] at hv; simp at hv
    | some z => rw [hq] at hv; simp at hv; rw [hv]
  · cases hx
def ix_tg (pc : Nat) (off : Int) (L : ix_L) (st : List Value) (h : ix_H) : Option ix_S := if 0 ≤ (pc : Int) + off then some (((pc : Int) + off).toNat, L, st, h) else none
theorem ix_tg_s {pc pc' : Nat} {off : Int} {L L' : ix_L} {st st' : List Value} {h h' : ix_H} (hx : ix_tg pc off L st h = some (pc', L', st', h')) : (pc : Int) + off = (pc' : Int) ∧ L' = L ∧ st' = st ∧ h' = h := by
  unfold ix_tg at hx
  split at hx
  · next q => cases hx; exact ⟨by omega, rfl, rfl, rfl⟩
  · cases hx
def ix_cc (k : ClassFile.Cond) (x y : Int32) : Bool := match k with
  | .eq => decide (x = y)
  | .ne => decide (¬ x = y)
  | .lt => decide (x < y)
  | .ge => decide (y ≤ x)
  | .gt => decide (y < x)
  | .le => decide (x ≤ y)
def ix_if (k : ClassFile.Cond) (off : Int) (pc : Nat) (L : ix_L) (st : List Value) (h : ix_H) : Option ix_S := match st with
  | .int x :: r => if 0 ≤ (pc : Int) + off then some (if ix_cc k x 0 = true then ((pc : Int) + off).toNat else pc + 3, L, r, h) else none
  | _ => none
theorem ix_if_s {k : ClassFile.Cond} {pc pc' : Nat} {off : Int} {L L' : ix_L} {st st' : List Value} {h h' : ix_H} (hx : ix_if k off pc L st h = some (pc', L', st', h')) : ∃ (x : Int32) (t : Nat), st = .int x :: st' ∧ L' = L ∧ h' = h ∧ (pc : Int) + off = (t : Int) ∧ pc' = if ix_cc k x 0 = true then t else pc + 3 := by
  unfold ix_if at hx
  split at hx
  · split at hx
    · cases hx; exact ⟨_, _, rfl, rfl, rfl, by omega, rfl⟩
    · cases hx
  · cases hx
def ix_ic (k : ClassFile.Cond) (off : Int) (pc : Nat) (L : ix_L) (st : List Value) (h : ix_H) : Option ix_S := match st with
  | .int y :: .int x :: r => if 0 ≤ (pc : Int) + off then some (if ix_cc k x y = true then ((pc : Int) + off).toNat else pc + 3, L, r, h) else none
  | _ => none
theorem ix_ic_s {k : ClassFile.Cond} {pc pc' : Nat} {off : Int} {L L' : ix_L} {st st' : List Value} {h h' : ix_H} (hx : ix_ic k off pc L st h = some (pc', L', st', h')) : ∃ (x y : Int32) (t : Nat), st = .int y :: .int x :: st' ∧ L' = L ∧ h' = h ∧ (pc : Int) + off = (t : Int) ∧ pc' = if ix_cc k x y = true then t else pc + 3 := by
  unfold ix_ic at hx
  split at hx
  · split at hx
    · cases hx; exact ⟨_, _, _, rfl, rfl, rfl, by omega, rfl⟩
    · cases hx
  · cases hx
def ix_sw (d lo hi : Int) (offs : Array Int) (pc : Nat) (L : ix_L) (st : List Value) (h : ix_H) : Option ix_S := match st with
  | .int x :: r => if x.toInt < lo ∨ hi < x.toInt then ix_tg pc d L r h else match offs[(x.toInt - lo).toNat]? with
    | some off => ix_tg pc off L r h
    | none => none
  | _ => none
theorem ix_sw_s {d lo hi : Int} {offs : Array Int} {pc pc' : Nat} {L L' : ix_L} {st st' : List Value} {h h' : ix_H} (hx : ix_sw d lo hi offs pc L st h = some (pc', L', st', h')) : ∃ x, st = .int x :: st' ∧ L' = L ∧ h' = h ∧ (((x.toInt < lo ∨ hi < x.toInt) ∧ (pc : Int) + d = (pc' : Int)) ∨ (¬ (x.toInt < lo ∨ hi < x.toInt) ∧ ∃ off, offs[(x.toInt - lo).toNat]? = some off ∧ (pc : Int) + off = (pc' : Int))) := by
  unfold ix_sw at hx
  split at hx
  · split at hx
    · next hc =>
      obtain ⟨q1, q2, q3, q4⟩ := ix_tg_s hx
      exact ⟨_, by rw [q3], q2, q4, Or.inl ⟨hc, q1⟩⟩
    · next hc =>
      split at hx
      · next off ho =>
        obtain ⟨q1, q2, q3, q4⟩ := ix_tg_s hx
        exact ⟨_, by rw [q3], q2, q4, Or.inr ⟨hc, off, ho, q1⟩⟩
      · cases hx
  · cases hx
def ix_du (k : Nat) (pc : Nat) (L : ix_L) (st : List Value) (h : ix_H) : Option ix_S := match k, st with
  | 0, a :: r => if a.category = 1 then some (pc, L, a :: a :: r, h) else none
  | 1, a :: b :: r => if a.category = 1 ∧ b.category = 1 then some (pc, L, a :: b :: a :: r, h) else none
  | 2, a :: b :: d :: r => if a.category = 1 ∧ b.category = 1 ∧ d.category = 1 then some (pc, L, a :: b :: d :: a :: r, h) else none
  | 3, a :: r => if a.category = 2 then some (pc, L, a :: a :: r, h) else match r with
    | b :: q => if b.category = 1 then some (pc, L, a :: b :: a :: b :: q, h) else none
    | [] => none
  | 4, a :: r => if a.category = 1 then some (pc, L, r, h) else none
  | 5, a :: b :: r => if a.category = 2 ∧ b.category = 1 then some (pc, L, a :: b :: a :: r, h) else none
  | 6, a :: b :: d :: r => if a.category = 2 ∧ b.category = 1 ∧ d.category = 1 then some (pc, L, a :: b :: d :: a :: r, h) else none
  | 7, a :: r => if a.category = 2 then some (pc, L, r, h) else none
  | _, _ => none
/-- the step of an instruction that looks at locals and operands alone -/
def ix_x0 (i : Instr) (pc : Nat) (L : ix_L) (st : List Value) (h : ix_H) : Option ix_S := match i with
  | .iconst n => some (pc + 1, L, .int (Int32.ofInt n) :: st, h)
  | .bipush n => some (pc + 2, L, .int (Int8.ofInt n).toInt32 :: st, h)
  | .sipush n => some (pc + 3, L, .int (Int16.ofInt n).toInt32 :: st, h)
  | .lconst n => some (pc + 1, L, .long (Int64.ofNat (n : Nat)) :: st, h)
  | .iload_n k => ix_lo 0 (pc + 1) k L st h
  | .iload k => ix_lo 0 (pc + 2) k L st h
  | .lload_n k => ix_lo 1 (pc + 1) k L st h
  | .lload k => ix_lo 1 (pc + 2) k L st h
  | .aload_n k => ix_lo 2 (pc + 1) k L st h
  | .aload k => ix_lo 2 (pc + 2) k L st h
  | .istore_n k => ix_so 0 (pc + 1) k L st h
  | .istore k => ix_so 0 (pc + 2) k L st h
  | .lstore_n k => ix_so 1 (pc + 1) k L st h
  | .lstore k => ix_so 1 (pc + 2) k L st h
  | .astore_n k => ix_so 2 (pc + 1) k L st h
  | .astore k => ix_so 2 (pc + 2) k L st h
  | .iinc k n => ix_in (pc + 3) k n L st h
  | .iadd => ix_ii (fun x y => x + y) (pc + 1) L st h
  | .isub => ix_ii (fun x y => x - y) (pc + 1) L st h
  | .imul => ix_ii (fun x y => x * y) (pc + 1) L st h
  | .iand => ix_ii (fun x y => x &&& y) (pc + 1) L st h
  | .ior => ix_ii (fun x y => x ||| y) (pc + 1) L st h
  | .ixor => ix_ii (fun x y => x ^^^ y) (pc + 1) L st h
  | .ishl => ix_ii (fun x y => x <<< (y &&& 31)) (pc + 1) L st h
  | .ishr => ix_ii (fun x y => x >>> (y &&& 31)) (pc + 1) L st h
  | .iushr => ix_ii (fun x y => (x.toUInt32 >>> (y.toUInt32 &&& Int32.toUInt32 31)).toInt32) (pc + 1) L st h
  | .idiv => ix_id (fun x y => x / y) (pc + 1) L st h
  | .irem => ix_id (fun x y => x - x / y * y) (pc + 1) L st h
  | .ineg => ix_i1 (fun x => .int (-x)) (pc + 1) L st h
  | .ladd => ix_l2 (fun x y => x + y) (pc + 1) L st h
  | .lsub => ix_l2 (fun x y => x - y) (pc + 1) L st h
  | .lmul => ix_l2 (fun x y => x * y) (pc + 1) L st h
  | .land => ix_l2 (fun x y => x &&& y) (pc + 1) L st h
  | .lor => ix_l2 (fun x y => x ||| y) (pc + 1) L st h
  | .lxor => ix_l2 (fun x y => x ^^^ y) (pc + 1) L st h
  | .ldiv => ix_ld (fun x y => x / y) (pc + 1) L st h
  | .lrem => ix_ld (fun x y => x - x / y * y) (pc + 1) L st h
  | .lneg => ix_l1 (fun x => .long (-x)) (pc + 1) L st h
  | .lshl => ix_lS (fun x y => x <<< (y.toInt64 &&& 63)) (pc + 1) L st h
  | .lshr => ix_lS (fun x y => x >>> (y.toInt64 &&& 63)) (pc + 1) L st h
  | .lushr => ix_lS (fun x y => (x.toUInt64 >>> (y.toInt64.toUInt64 &&& Int64.toUInt64 63)).toInt64) (pc + 1) L st h
  | .lcmp => ix_lc (pc + 1) L st h
  | .i2l => ix_i1 (fun x => .long x.toInt64) (pc + 1) L st h
  | .i2c => ix_i1 (fun x => .int (x.toUInt32 % 65536).toInt32) (pc + 1) L st h
  | .i2b => ix_i1 (fun x => .int x.toInt8.toInt32) (pc + 1) L st h
  | .l2i => ix_l1 (fun x => .int x.toInt32) (pc + 1) L st h
  | .dup => ix_du 0 (pc + 1) L st h
  | .dup_x1 => ix_du 1 (pc + 1) L st h
  | .dup_x2 => ix_du 2 (pc + 1) L st h
  | .dup2 => ix_du 3 (pc + 1) L st h
  | .pop => ix_du 4 (pc + 1) L st h
  | .dup2_x1 => ix_du 5 (pc + 1) L st h
  | .dup2_x2 => ix_du 6 (pc + 1) L st h
  | .pop2 => ix_du 7 (pc + 1) L st h
  | .ifCond k off => ix_if k off pc L st h
  | .if_icmp k off => ix_ic k off pc L st h
  | .goto off => ix_tg pc off L st h
  | .tableswitch d lo hi offs => ix_sw d lo hi offs pc L st h
  | _ => none
section IXP
variable {p : Program} {l : Launch} {e : Env} {R : Room} {s : State} {m : MethodId} {args : Array Value} {below : List Frame} {meth : Method} {c : Code} {H : Heap} {locs : List Loc} {cells slots : Nat} {Q : State → Prop}
variable {cc : ByteArray} {pc : Nat} {ls : Array Slot}
theorem ix_du_ok (G : ix_G) (hexec : p.tables.exec = Jvm.exec) (hb : c.code = cc) {L L' : ix_L} {st st' : List Value} {h h' : ix_H} {k pc' : Nat} (hd : (k = 0 → decode cc pc = .ok (.dup, 1)) ∧ (k = 1 → decode cc pc = .ok (.dup_x1, 1)) ∧ (k = 2 → decode cc pc = .ok (.dup_x2, 1)) ∧ (k = 3 → decode cc pc = .ok (.dup2, 1)) ∧ (k = 4 → decode cc pc = .ok (.pop, 1)) ∧ (k = 5 → decode cc pc = .ok (.dup2_x1, 1)) ∧ (k = 6 → decode cc pc = .ok (.dup2_x2, 1)) ∧ (k = 7 → decode cc pc = .ok (.pop2, 1))) (hx : ix_du k (pc + 1) L st h = some (pc', L', st', h'))
    (kk : pc' = pc + 1 → L' = L → h' = h → W p l e R s m args below meth c H locs cells slots Q (F0 m pc' ls (st'.map (ix_v G)))) : W p l e R s m args below meth c H locs cells slots Q (F0 m pc ls (st.map (ix_v G))) := by
  obtain ⟨d0, d1, d2, d3, d4, d5, d6, d7⟩ := hd
  unfold ix_du at hx
  split at hx
  · split at hx
    · next q => cases hx; exact lv_dup hexec hb (d0 rfl) ((ix_cat G _).trans q) (kk rfl rfl rfl)
    · cases hx
  · split at hx
    · next q => cases hx; exact lv_dup_x1 hexec hb (d1 rfl) ((ix_cat G _).trans q.1) ((ix_cat G _).trans q.2) (kk rfl rfl rfl)
    · cases hx
  · split at hx
    · next q => cases hx; exact lv_dup_x2 hexec hb (d2 rfl) ((ix_cat G _).trans q.1) ((ix_cat G _).trans q.2.1) ((ix_cat G _).trans q.2.2) (kk rfl rfl rfl)
    · cases hx
  · split at hx
    · next q => cases hx; exact lv_dup2_2 hexec hb (d3 rfl) ((ix_cat G _).trans q) (kk rfl rfl rfl)
    · next q =>
      split at hx
      · split at hx
        · next a _ _ _ q2 =>
          cases hx
          have q1 : a.category = 1 := by rcases lv_cat a with z | z; exact z; exact absurd z q
          exact lv_dup2_11 hexec hb (d3 rfl) ((ix_cat G _).trans q1) ((ix_cat G _).trans q2) (kk rfl rfl rfl)
        · cases hx
      · cases hx
  · split at hx
    · next q => cases hx; exact lv_pop hexec hb (d4 rfl) ((ix_cat G _).trans q) (kk rfl rfl rfl)
    · cases hx
  · split at hx
    · next q => cases hx; exact lv_dup2_x1_2 hexec hb (d5 rfl) ((ix_cat G _).trans q.1) ((ix_cat G _).trans q.2) (kk rfl rfl rfl)
    · cases hx
  · split at hx
    · next q => cases hx; exact lv_dup2_x2_2 hexec hb (d6 rfl) ((ix_cat G _).trans q.1) ((ix_cat G _).trans q.2.1) ((ix_cat G _).trans q.2.2) (kk rfl rfl rfl)
    · cases hx
  · split at hx
    · next q => cases hx; exact lv_pop2_2 hexec hb (d7 rfl) ((ix_cat G _).trans q) (kk rfl rfl rfl)
    · cases hx
  · cases hx
theorem ix_x0_ok (G : ix_G) (hexec : p.tables.exec = Jvm.exec) (hb : c.code = cc) {i : Instr} {L L' : ix_L} {st st' : List Value} {h h' : ix_H} {pc' len : Nat} (hd : decode cc pc = .ok (i, len)) (hn : ix_ln i = 0 ∨ len = ix_ln i) (hx : ix_x0 i pc L st h = some (pc', L', st', h')) (hl : ix_hl G ls L)
    (kk : h' = h → ∀ ls' : Array Slot, ix_hl G ls' L' → W p l e R s m args below meth c H locs cells slots Q (F0 m pc' ls' (st'.map (ix_v G)))) : W p l e R s m args below meth c H locs cells slots Q (F0 m pc ls (st.map (ix_v G))) := by
  have d1 : ix_ln i = 1 → decode cc pc = .ok (i, 1) := fun q => by
    rcases hn with z | z
    · omega
    · rw [z, q] at hd; exact hd
  have d2 : ix_ln i = 2 → decode cc pc = .ok (i, 2) := fun q => by
    rcases hn with z | z
    · omega
    · rw [z, q] at hd; exact hd
  have d3 : ix_ln i = 3 → decode cc pc = .ok (i, 3) := fun q => by
    rcases hn with z | z
    · omega
    · rw [z, q] at hd; exact hd
  cases i with
  | iconst n => cases hx; exact lv_iconst hexec hb (d1 rfl) rfl (kk rfl ls hl)
  | bipush n => cases hx; exact lv_bipush hexec hb (d2 rfl) rfl (kk rfl ls hl)
  | sipush n => cases hx; exact lv_sipush hexec hb (d3 rfl) rfl (kk rfl ls hl)
  | lconst n => cases hx; exact lv_lconst hexec hb (d1 rfl) rfl (kk rfl ls hl)
  | iload_n k =>
    obtain ⟨v, hv, rfl, rfl, rfl, rfl, hk⟩ := ix_lo_s hx
    rcases hk with ⟨-, x, rfl⟩ | ⟨q, -⟩ | ⟨q, -⟩
    · exact lv_iload_n hexec hb (d1 rfl) rfl (hl.2.2 _ _ hv) (kk rfl ls hl)
    · cases q
    · cases q
  | iload k =>
    obtain ⟨v, hv, rfl, rfl, rfl, rfl, hk⟩ := ix_lo_s hx
    rcases hk with ⟨-, x, rfl⟩ | ⟨q, -⟩ | ⟨q, -⟩
    · exact lv_iload hexec hb (d2 rfl) (hl.2.2 _ _ hv) (kk rfl ls hl)
    · cases q
    · cases q
  | lload_n k =>
    obtain ⟨v, hv, rfl, rfl, rfl, rfl, hk⟩ := ix_lo_s hx
    rcases hk with ⟨q, -⟩ | ⟨-, x, rfl⟩ | ⟨q, -⟩
    · cases q
    · exact lv_lload_n hexec hb (d1 rfl) rfl (hl.2.2 _ _ hv) (kk rfl ls hl)
    · cases q
  | lload k =>
    obtain ⟨v, hv, rfl, rfl, rfl, rfl, hk⟩ := ix_lo_s hx
    rcases hk with ⟨q, -⟩ | ⟨-, x, rfl⟩ | ⟨q, -⟩
    · cases q
    · exact lv_lload hexec hb (d2 rfl) (hl.2.2 _ _ hv) (kk rfl ls hl)
    · cases q
  | aload_n k =>
    obtain ⟨v, hv, rfl, rfl, rfl, rfl, hk⟩ := ix_lo_s hx
    rcases hk with ⟨q, -⟩ | ⟨q, -⟩ | ⟨-, x, rfl⟩
    · cases q
    · cases q
    · exact lv_aload_n hexec hb (d1 rfl) rfl (hl.2.2 _ _ hv) (kk rfl ls hl)
  | aload k =>
    obtain ⟨v, hv, rfl, rfl, rfl, rfl, hk⟩ := ix_lo_s hx
    rcases hk with ⟨q, -⟩ | ⟨q, -⟩ | ⟨-, x, rfl⟩
    · cases q
    · cases q
    · exact lv_aload hexec hb (d2 rfl) (hl.2.2 _ _ hv) (kk rfl ls hl)
  | istore_n k =>
    obtain ⟨x, hi, rfl, rfl, rfl, rfl⟩ := ix_so0_s hx
    exact lv_istore_n hexec hb (d1 rfl) rfl hl.has hi rfl (fun ls' h' => kk rfl ls' (ix_hl.of1 (v := .int x) h'))
  | istore k =>
    obtain ⟨x, hi, rfl, rfl, rfl, rfl⟩ := ix_so0_s hx
    exact lv_istore hexec hb (d2 rfl) hl.has hi rfl (fun ls' h' => kk rfl ls' (ix_hl.of1 (v := .int x) h'))
  | lstore_n k =>
    obtain ⟨x, hi, rfl, rfl, rfl, rfl⟩ := ix_so1_s hx
    exact lv_lstore_n hexec hb (d1 rfl) rfl hl.has hi rfl (fun ls' h' => kk rfl ls' (ix_hl.of2 (v := .long x) h'))
  | lstore k =>
    obtain ⟨x, hi, rfl, rfl, rfl, rfl⟩ := ix_so1_s hx
    exact lv_lstore hexec hb (d2 rfl) hl.has hi rfl (fun ls' h' => kk rfl ls' (ix_hl.of2 (v := .long x) h'))
  | astore_n k =>
    obtain ⟨x, hi, rfl, rfl, rfl, rfl⟩ := ix_so2_s hx
    exact lv_astore_n hexec hb (d1 rfl) rfl hl.has hi rfl (fun ls' h' => kk rfl ls' (ix_hl.of1 (v := .ref x) h'))
  | astore k =>
    obtain ⟨x, hi, rfl, rfl, rfl, rfl⟩ := ix_so2_s hx
    exact lv_astore hexec hb (d2 rfl) hl.has hi rfl (fun ls' h' => kk rfl ls' (ix_hl.of1 (v := .ref x) h'))
  | iinc k n =>
    obtain ⟨x, hv, rfl, rfl, rfl, rfl⟩ := ix_in_s hx
    obtain ⟨q, hq⟩ := List.getElem?_of_mem (ix_ll_in (G := G) hv)
    exact lv_iinc hexec hb (d3 rfl) hl.has hq rfl (List.getElem?_eq_some_iff.mp hv).1 rfl (fun ls' h' => kk rfl ls' (ix_hl.of1 (v := .int (x + Int32.ofInt n)) h'))
  | iadd => obtain ⟨x, y, r, rfl, rfl, rfl, rfl, rfl⟩ := ix_ii_s hx; exact lv_iadd hexec hb (d1 rfl) (kk rfl ls hl)
  | isub => obtain ⟨x, y, r, rfl, rfl, rfl, rfl, rfl⟩ := ix_ii_s hx; exact lv_isub hexec hb (d1 rfl) (kk rfl ls hl)
  | imul => obtain ⟨x, y, r, rfl, rfl, rfl, rfl, rfl⟩ := ix_ii_s hx; exact lv_imul hexec hb (d1 rfl) (kk rfl ls hl)
  | iand => obtain ⟨x, y, r, rfl, rfl, rfl, rfl, rfl⟩ := ix_ii_s hx; exact lv_iand hexec hb (d1 rfl) (kk rfl ls hl)
  | ior => obtain ⟨x, y, r, rfl, rfl, rfl, rfl, rfl⟩ := ix_ii_s hx; exact lv_ior hexec hb (d1 rfl) (kk rfl ls hl)
  | ixor => obtain ⟨x, y, r, rfl, rfl, rfl, rfl, rfl⟩ := ix_ii_s hx; exact lv_ixor hexec hb (d1 rfl) (kk rfl ls hl)
  | ishl => obtain ⟨x, y, r, rfl, rfl, rfl, rfl, rfl⟩ := ix_ii_s hx; exact lv_ishl hexec hb (d1 rfl) (kk rfl ls hl)
  | ishr => obtain ⟨x, y, r, rfl, rfl, rfl, rfl, rfl⟩ := ix_ii_s hx; exact lv_ishr hexec hb (d1 rfl) (kk rfl ls hl)
  | iushr => obtain ⟨x, y, r, rfl, rfl, rfl, rfl, rfl⟩ := ix_ii_s hx; exact lv_iushr hexec hb (d1 rfl) rfl (kk rfl ls hl)
  | idiv => obtain ⟨x, y, r, hy, rfl, rfl, rfl, rfl, rfl⟩ := ix_id_s hx; exact lv_idiv hexec hb (d1 rfl) hy (kk rfl ls hl)
  | irem => obtain ⟨x, y, r, hy, rfl, rfl, rfl, rfl, rfl⟩ := ix_id_s hx; exact lv_irem hexec hb (d1 rfl) hy (kk rfl ls hl)
  | ineg => obtain ⟨x, r, rfl, rfl, rfl, rfl, rfl⟩ := ix_i1_s hx; exact lv_ineg hexec hb (d1 rfl) (kk rfl ls hl)
  | ladd => obtain ⟨x, y, r, rfl, rfl, rfl, rfl, rfl⟩ := ix_l2_s hx; exact lv_ladd hexec hb (d1 rfl) (kk rfl ls hl)
  | lsub => obtain ⟨x, y, r, rfl, rfl, rfl, rfl, rfl⟩ := ix_l2_s hx; exact lv_lsub hexec hb (d1 rfl) (kk rfl ls hl)
  | lmul => obtain ⟨x, y, r, rfl, rfl, rfl, rfl, rfl⟩ := ix_l2_s hx; exact lv_lmul hexec hb (d1 rfl) (kk rfl ls hl)
  | land => obtain ⟨x, y, r, rfl, rfl, rfl, rfl, rfl⟩ := ix_l2_s hx; exact lv_land hexec hb (d1 rfl) (kk rfl ls hl)
  | lor => obtain ⟨x, y, r, rfl, rfl, rfl, rfl, rfl⟩ := ix_l2_s hx; exact lv_lor hexec hb (d1 rfl) (kk rfl ls hl)
  | lxor => obtain ⟨x, y, r, rfl, rfl, rfl, rfl, rfl⟩ := ix_l2_s hx; exact lv_lxor hexec hb (d1 rfl) (kk rfl ls hl)
  | ldiv => obtain ⟨x, y, r, hy, rfl, rfl, rfl, rfl, rfl⟩ := ix_ld_s hx; exact lv_ldiv hexec hb (d1 rfl) hy (kk rfl ls hl)
  | lrem => obtain ⟨x, y, r, hy, rfl, rfl, rfl, rfl, rfl⟩ := ix_ld_s hx; exact lv_lrem hexec hb (d1 rfl) hy (kk rfl ls hl)
  | lneg => obtain ⟨x, r, rfl, rfl, rfl, rfl, rfl⟩ := ix_l1_s hx; exact lv_lneg hexec hb (d1 rfl) (kk rfl ls hl)
  | lshl => obtain ⟨x, y, r, rfl, rfl, rfl, rfl, rfl⟩ := ix_lS_s hx; exact lv_lshl hexec hb (d1 rfl) rfl (kk rfl ls hl)
  | lshr => obtain ⟨x, y, r, rfl, rfl, rfl, rfl, rfl⟩ := ix_lS_s hx; exact lv_lshr hexec hb (d1 rfl) rfl (kk rfl ls hl)
  | lushr => obtain ⟨x, y, r, rfl, rfl, rfl, rfl, rfl⟩ := ix_lS_s hx; exact lv_lushr hexec hb (d1 rfl) rfl (kk rfl ls hl)
  | lcmp => obtain ⟨x, y, r, rfl, rfl, rfl, rfl, rfl⟩ := ix_lc_s hx; exact W.lcmp hexec hb (d1 rfl) (kk rfl ls hl)
  | i2l => obtain ⟨x, r, rfl, rfl, rfl, rfl, rfl⟩ := ix_i1_s hx; exact lv_i2l hexec hb (d1 rfl) rfl (kk rfl ls hl)
  | i2c => obtain ⟨x, r, rfl, rfl, rfl, rfl, rfl⟩ := ix_i1_s hx; exact lv_i2c hexec hb (d1 rfl) rfl (kk rfl ls hl)
  | i2b => obtain ⟨x, r, rfl, rfl, rfl, rfl, rfl⟩ := ix_i1_s hx; exact lv_i2b hexec hb (d1 rfl) rfl (kk rfl ls hl)
  | l2i => obtain ⟨x, r, rfl, rfl, rfl, rfl, rfl⟩ := ix_l1_s hx; exact lv_l2i hexec hb (d1 rfl) rfl (kk rfl ls hl)
  | dup => exact ix_du_ok G hexec hb (k := 0) ⟨(fun _ => d1 rfl), (fun q => by cases q), (fun q => by cases q), (fun q => by cases q), (fun q => by cases q), (fun q => by cases q), (fun q => by cases q), (fun q => by cases q)⟩ hx (fun e1 e2 e3 => by subst e2; exact kk e3 ls hl)
  | dup_x1 => exact ix_du_ok G hexec hb (k := 1) ⟨(fun q => by cases q), (fun _ => d1 rfl), (fun q => by cases q), (fun q => by cases q), (fun q => by cases q), (fun q => by cases q), (fun q => by cases q), (fun q => by cases q)⟩ hx (fun e1 e2 e3 => by subst e2; exact kk e3 ls hl)
  | dup_x2 => exact ix_du_ok G hexec hb (k := 2) ⟨(fun q => by cases q), (fun q => by cases q), (fun _ => d1 rfl), (fun q => by cases q), (fun q => by cases q), (fun q => by cases q), (fun q => by cases q), (fun q => by cases q)⟩ hx (fun e1 e2 e3 => by subst e2; exact kk e3 ls hl)
  | dup2 => exact ix_du_ok G hexec hb (k := 3) ⟨(fun q => by cases q), (fun q => by cases q), (fun q => by cases q), (fun _ => d1 rfl), (fun q => by cases q), (fun q => by cases q), (fun q => by cases q), (fun q => by cases q)⟩ hx (fun e1 e2 e3 => by subst e2; exact kk e3 ls hl)
  | pop => exact ix_du_ok G hexec hb (k := 4) ⟨(fun q => by cases q), (fun q => by cases q), (fun q => by cases q), (fun q => by cases q), (fun _ => d1 rfl), (fun q => by cases q), (fun q => by cases q), (fun q => by cases q)⟩ hx (fun e1 e2 e3 => by subst e2; exact kk e3 ls hl)
  | dup2_x1 => exact ix_du_ok G hexec hb (k := 5) ⟨(fun q => by cases q), (fun q => by cases q), (fun q => by cases q), (fun q => by cases q), (fun q => by cases q), (fun _ => d1 rfl), (fun q => by cases q), (fun q => by cases q)⟩ hx (fun e1 e2 e3 => by subst e2; exact kk e3 ls hl)
  | dup2_x2 => exact ix_du_ok G hexec hb (k := 6) ⟨(fun q => by cases q), (fun q => by cases q), (fun q => by cases q), (fun q => by cases q), (fun q => by cases q), (fun q => by cases q), (fun _ => d1 rfl), (fun q => by cases q)⟩ hx (fun e1 e2 e3 => by subst e2; exact kk e3 ls hl)
  | pop2 => exact ix_du_ok G hexec hb (k := 7) ⟨(fun q => by cases q), (fun q => by cases q), (fun q => by cases q), (fun q => by cases q), (fun q => by cases q), (fun q => by cases q), (fun q => by cases q), (fun _ => d1 rfl)⟩ hx (fun e1 e2 e3 => by subst e2; exact kk e3 ls hl)
  | ifCond k off =>
    obtain ⟨x, t, rfl, rfl, rfl, ht, rfl⟩ := ix_if_s hx
    cases k with
    | eq => exact lv_if_eq hexec hb (d3 rfl) ht (fun q => by have w := kk rfl ls hl; rwa [if_pos (show ix_cc .eq x 0 = true from decide_eq_true q)] at w) (fun q => by have w := kk rfl ls hl; rwa [if_neg (show ¬ ix_cc .eq x 0 = true from fun z => q (of_decide_eq_true z))] at w)
    | ne => exact lv_if_ne hexec hb (d3 rfl) ht (fun q => by have w := kk rfl ls hl; rwa [if_pos (show ix_cc .ne x 0 = true from decide_eq_true q)] at w) (fun q => by have w := kk rfl ls hl; rwa [if_neg (show ¬ ix_cc .ne x 0 = true from fun z => (of_decide_eq_true z) q)] at w)
    | lt => exact lv_if_lt hexec hb (d3 rfl) ht (fun q => by have w := kk rfl ls hl; rwa [if_pos (show ix_cc .lt x 0 = true from decide_eq_true q)] at w) (fun q => by have w := kk rfl ls hl; rwa [if_neg (show ¬ ix_cc .lt x 0 = true from fun z => q (of_decide_eq_true z))] at w)
    | ge => exact lv_if_ge hexec hb (d3 rfl) ht (fun q => by have w := kk rfl ls hl; rwa [if_pos (show ix_cc .ge x 0 = true from decide_eq_true q)] at w) (fun q => by have w := kk rfl ls hl; rwa [if_neg (show ¬ ix_cc .ge x 0 = true from fun z => q (of_decide_eq_true z))] at w)
    | gt => exact lv_if_gt hexec hb (d3 rfl) ht (fun q => by have w := kk rfl ls hl; rwa [if_pos (show ix_cc .gt x 0 = true from decide_eq_true q)] at w) (fun q => by have w := kk rfl ls hl; rwa [if_neg (show ¬ ix_cc .gt x 0 = true from fun z => q (of_decide_eq_true z))] at w)
    | le => exact lv_if_le hexec hb (d3 rfl) ht (fun q => by have w := kk rfl ls hl; rwa [if_pos (show ix_cc .le x 0 = true from decide_eq_true q)] at w) (fun q => by have w := kk rfl ls hl; rwa [if_neg (show ¬ ix_cc .le x 0 = true from fun z => q (of_decide_eq_true z))] at w)
  | if_icmp k off =>
    obtain ⟨x, y, t, rfl, rfl, rfl, ht, rfl⟩ := ix_ic_s hx
    cases k with
    | eq => exact lv_icmp_eq hexec hb (d3 rfl) ht (fun q => by have w := kk rfl ls hl; rwa [if_pos (show ix_cc .eq x y = true from decide_eq_true q)] at w) (fun q => by have w := kk rfl ls hl; rwa [if_neg (show ¬ ix_cc .eq x y = true from fun z => q (of_decide_eq_true z))] at w)
    | ne => exact lv_icmp_ne hexec hb (d3 rfl) ht (fun q => by have w := kk rfl ls hl; rwa [if_pos (show ix_cc .ne x y = true from decide_eq_true q)] at w) (fun q => by have w := kk rfl ls hl; rwa [if_neg (show ¬ ix_cc .ne x y = true from fun z => (of_decide_eq_true z) q)] at w)
    | lt => exact lv_icmp_lt hexec hb (d3 rfl) ht (fun q => by have w := kk rfl ls hl; rwa [if_pos (show ix_cc .lt x y = true from decide_eq_true q)] at w) (fun q => by have w := kk rfl ls hl; rwa [if_neg (show ¬ ix_cc .lt x y = true from fun z => q (of_decide_eq_true z))] at w)
    | ge => exact lv_icmp_ge hexec hb (d3 rfl) ht (fun q => by have w := kk rfl ls hl; rwa [if_pos (show ix_cc .ge x y = true from decide_eq_true q)] at w) (fun q => by have w := kk rfl ls hl; rwa [if_neg (show ¬ ix_cc .ge x y = true from fun z => q (of_decide_eq_true z))] at w)
    | gt => exact lv_icmp_gt hexec hb (d3 rfl) ht (fun q => by have w := kk rfl ls hl; rwa [if_pos (show ix_cc .gt x y = true from decide_eq_true q)] at w) (fun q => by have w := kk rfl ls hl; rwa [if_neg (show ¬ ix_cc .gt x y = true from fun z => q (of_decide_eq_true z))] at w)
    | le => exact lv_icmp_le hexec hb (d3 rfl) ht (fun q => by have w := kk rfl ls hl; rwa [if_pos (show ix_cc .le x y = true from decide_eq_true q)] at w) (fun q => by have w := kk rfl ls hl; rwa [if_neg (show ¬ ix_cc .le x y = true from fun z => q (of_decide_eq_true z))] at w)
  | goto off =>
    obtain ⟨ht, rfl, rfl, rfl⟩ := ix_tg_s hx
    exact lv_goto hexec hb (d3 rfl) ht (kk rfl ls hl)
  | tableswitch d lo hi offs =>
    obtain ⟨x, rfl, rfl, rfl, hc⟩ := ix_sw_s hx
    rcases hc with ⟨hc, ht⟩ | ⟨hc, off, ho, ht⟩
    · exact lv_tableOut hexec hb hd hc ht (kk rfl ls hl)
    · exact lv_tableIn hexec hb hd (fun q => hc (Or.inl q)) (fun q => hc (Or.inr q)) ho ht (kk rfl ls hl)
  | _ => cases hx
end IXP
