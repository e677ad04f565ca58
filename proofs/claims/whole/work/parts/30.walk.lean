/-! ===== walking: straight stretches, cells, branches ===== -/
/-- a step that looks at locals, operands and constants alone -/
noncomputable def ix_s1 (mi pc : Nat) (L : ix_L) (st : List Value) (h : ix_H) : Option ix_S := match ix_ins mi pc with
  | some i => match ix_isr i, ix_ix i, ix_thr mi pc with
    | false, none, none => ix_x1 (ix_ini mi) (ix_o mi) i pc L st h
    | _, _, _ => none
  | none => none
noncomputable def ix_ru : Nat → Nat → Nat → ix_L → List Value → ix_H → Option ix_S
  | 0, _, pc, L, st, h => some (pc, L, st, h)
  | k + 1, mi, pc, L, st, h => match ix_s1 mi pc L st h with
    | some (pc', L', st', h') => ix_ru k mi pc' L' st' h'
    | none => none
section IXW
variable {mi pc pc' mj k : Nat} {i : Instr} {L L' : ix_L} {st st' rest as : List Value} {h h' : ix_H} {Q : ix_O → ix_H → Prop}
theorem jx1 (hx : ix_s1 mi pc L st h = some (pc', L', st', h')) (q : ix_E mi pc' L' st' h' Q) : ix_E mi pc L st h Q := by
  unfold ix_s1 at hx
  cases hi : ix_ins mi pc with
  | none => rw [hi] at hx; cases hx
  | some i =>
    rw [hi] at hx
    simp only at hx
    split at hx
    · next a b c => exact ix_q1 i pc' hi a b c hx q
    · cases hx
/-- k steps at once -/
theorem jxh (k : Nat) (hx : ix_ru k mi pc L st h = some (pc', L', st', h')) (q : ix_E mi pc' L' st' h' Q) : ix_E mi pc L st h Q := by
  induction k generalizing pc L st h with
  | zero => cases hx; exact q
  | succ k ih =>
    rw [ix_ru] at hx
    split at hx
    · next hz => exact jx1 hz (ih hx)
    · cases hx
theorem jx (k : Nat) (hx : ix_ru k mi pc L st h = some (pc', L', st', h)) (q : ix_E mi pc' L' st' h Q) : ix_E mi pc L st h Q := jxh k hx q
/-- an object, an array of ints (its type's number t), of longs -/
def ix_ob (h : ix_H) (r ci : Nat) (fs : List Value) : Prop := h.2.2 r = .inr (ci, fs) ∧ 32 ≤ r ∧ r < h.1 ∧ ci < 100
def ix_ia (h : ix_H) (r t n : Nat) (f : Nat → Int32) : Prop := h.2.2 r = .inl (t, n, .inl f) ∧ 32 ≤ r ∧ r < h.1 ∧ n ≤ 100000 ∧ t < 5
def ix_la (h : ix_H) (r n : Nat) (f : Nat → Int64) : Prop := h.2.2 r = .inl (1, n, .inr (.inl f)) ∧ 32 ≤ r ∧ r < h.1 ∧ n ≤ 100000
def ix_ra (h : ix_H) (r n : Nat) (f : Nat → Option Nat) : Prop := h.2.2 r = .inl (4, n, .inr (.inr (.inr (.inr f)))) ∧ 32 ≤ r ∧ r < h.1 ∧ n ≤ 100000
abbrev cI (t n : Nat) (f : Nat → Int32) : ix_C := .inl (t, n, .inl f)
abbrev cL (n : Nat) (f : Nat → Int64) : ix_C := .inl (1, n, .inr (.inl f))
abbrev cO (ci : Nat) (fs : List Value) : ix_C := .inr (ci, fs)
theorem ix_up_up (h : ix_H) (r : Nat) (a b : ix_C) : ix_up (ix_up h r a) r b = ix_up h r b := by
  unfold ix_up va_up
  refine Prod.ext rfl (Prod.ext rfl ?_)
  funext j
  by_cases e : j = r <;> simp [e]
theorem ix_up_sw (h : ix_H) {r q : Nat} (a b : ix_C) (hn : r ≠ q) : ix_up (ix_up h r a) q b = ix_up (ix_up h q b) r a := by
  unfold ix_up va_up
  refine Prod.ext rfl (Prod.ext rfl ?_)
  funext j
  by_cases e : j = r
  · have : ¬ j = q := fun z => hn (e ▸ z)
    simp [e, hn]
  · simp [e]
theorem ix_up_id {h : ix_H} {r : Nat} {a : ix_C} (e : h.2.2 r = a) : ix_up h r a = h := by
  unfold ix_up va_up
  refine Prod.ext rfl (Prod.ext rfl ?_)
  funext j
  by_cases z : j = r <;> simp [z, e]
theorem ix_ia.id {r t n : Nat} {f : Nat → Int32} (a : ix_ia h r t n f) : ix_up h r (cI t n f) = h := ix_up_id a.1
theorem ix_ob.id {r ci : Nat} {fs : List Value} (a : ix_ob h r ci fs) : ix_up h r (cO ci fs) = h := ix_up_id a.1
theorem ix_ia.nw {r t n : Nat} {f : Nat → Int32} (a : ix_ia h r t n f) (g : Nat → Int32) : ix_ia (ix_up h r (cI t n g)) r t n g := ⟨by simp [ix_up, va_up], a.2⟩
theorem ix_ob.nw {r ci : Nat} {fs : List Value} (a : ix_ob h r ci fs) (gs : List Value) : ix_ob (ix_up h r (cO ci gs)) r ci gs := ⟨by simp [ix_up, va_up], a.2⟩
theorem ix_la.nw {r n : Nat} {f : Nat → Int64} (a : ix_la h r n f) (g : Nat → Int64) : ix_la (ix_up h r (cL n g)) r n g := ⟨by simp [ix_up, va_up], a.2⟩
theorem ix_ia.up {r t n q : Nat} {f : Nat → Int32} {c : ix_C} (a : ix_ia h r t n f) (e : r ≠ q) : ix_ia (ix_up h q c) r t n f := ⟨by simp [ix_up, va_up, e, a.1], a.2⟩
theorem ix_ob.up {r ci q : Nat} {fs : List Value} {c : ix_C} (a : ix_ob h r ci fs) (e : r ≠ q) : ix_ob (ix_up h q c) r ci fs := ⟨by simp [ix_up, va_up, e, a.1], a.2⟩
theorem ix_la.up {r n q : Nat} {f : Nat → Int64} {c : ix_C} (a : ix_la h r n f) (e : r ≠ q) : ix_la (ix_up h q c) r n f := ⟨by simp [ix_up, va_up, e, a.1], a.2⟩
theorem ix_ra.up {r n q : Nat} {f : Nat → Option Nat} {c : ix_C} (a : ix_ra h r n f) (e : r ≠ q) : ix_ra (ix_up h q c) r n f := ⟨by simp [ix_up, va_up, e, a.1], a.2⟩
theorem ix_ob.ne {r q t n ci : Nat} {fs : List Value} {f : Nat → Int32} (a : ix_ob h r ci fs) (b : ix_ia h q t n f) : r ≠ q := fun e => by
  have := a.1
  rw [e, b.1] at this
  cases this
theorem ix_s1_of {i : Instr} (hi : ix_ins mi pc = some i) (h1 : ix_isr i = false) (h2 : ix_ix i = none) (h3 : ix_thr mi pc = none) : ix_s1 mi pc L st h = ix_x1 (ix_ini mi) (ix_o mi) i pc L st h := by
  unfold ix_s1
  rw [hi]
  simp only [h1, h2, h3]
/-- a field is read -/
theorem jgf {r ci k idx : Nat} {fs : List Value} {v : Value} (a : ix_ob h r ci fs) (hi : ix_ins mi pc = some (.getfield idx)) (ht : ix_thr mi pc = none) (hf : ix_fl (ix_o mi) idx = some (ci, k)) (hv : fs[k]? = some v) (hp : pc + 3 = pc') (q : ix_E mi pc' L (v :: st) h Q) : ix_E mi pc L (.ref r :: st) h Q := by
  obtain ⟨a1, a2, a3, a4⟩ := a
  refine jx1 (pc' := pc') (L' := L) (st' := v :: st) (h' := h) ?_ q
  rw [ix_s1_of hi rfl rfl ht]
  have e1 : Nat.blt r 32 = Nat.beq ci 100 := by
    have e2 : Nat.blt r 32 = false := by
      cases z : Nat.blt r 32 with
      | false => rfl
      | true => have := Nat.le_of_ble_eq_true z; omega
    have e3 : Nat.beq ci 100 = false := by
      cases z : Nat.beq ci 100 with
      | false => rfl
      | true => have := Nat.eq_of_beq_eq_true z; omega
    rw [e2, e3]
  simp only [ix_x1, ix_gf, hf, a1, e1, a3, and_self, if_true, hv, hp]
/-- a field is written -/
theorem jpf {r ci k idx : Nat} {fs : List Value} {v : Value} (a : ix_ob h r ci fs) (hi : ix_ins mi pc = some (.putfield idx)) (ht : ix_thr mi pc = none) (hf : ix_fld (ix_o mi) idx = some (ci, k)) (hk : k < fs.length) (hfin : ix_fin ci k = true → ix_ini mi = true ∧ ix_o mi = ix_oc ci) (hn : narrow (ix_fty ci k) v = v) (hs : fits (ix_fty ci k) v = true) (hp : pc + 3 = pc') (q : ix_E mi pc' L st (ix_up h r (cO ci (fs.set k v))) Q) : ix_E mi pc L (v :: .ref r :: st) h Q := by
  obtain ⟨a1, a2, a3, a4⟩ := a
  refine jx1 (pc' := pc') (L' := L) (st' := st) (h' := ix_up h r (cO ci (fs.set k v))) ?_ q
  rw [ix_s1_of hi rfl rfl ht]
  simp only [ix_x1, ix_pf, hf, a1, hp]
  rw [if_pos ⟨trivial, a2, a3, hk, hfin, hn, hs⟩]
/-- an element of an array of ints is read -/
theorem jal {r n j : Nat} {f : Nat → Int32} (a : ix_ia h r 0 n f) (hi : ix_ins mi pc = some .iaload) (ht : ix_thr mi pc = none) (hj : j < n) (hp : pc + 1 = pc') (q : ix_E mi pc' L (.int (f j) :: st) h Q) : ix_E mi pc L (.int (nI j) :: .ref r :: st) h Q := by
  obtain ⟨a1, a2, a3, a4, a5⟩ := a
  refine jx1 (pc' := pc') (L' := L) (st' := .int (f j) :: st) (h' := h) ?_ q
  rw [ix_s1_of hi rfl rfl ht]
  have e1 := nI_clamp (n := j) (by omega)
  have e2 := nI_pos (n := j) (by omega)
  simp only [ix_x1, ix_al, a1, e1, hp]
  rw [if_pos ⟨trivial, Or.inl a2, a3, e2, hj⟩]
/-- an element of an array of ints is written -/
theorem jas {r n j : Nat} {f : Nat → Int32} {x : Int32} (a : ix_ia h r 0 n f) (hi : ix_ins mi pc = some .iastore) (ht : ix_thr mi pc = none) (hj : j < n) (hp : pc + 1 = pc') (q : ix_E mi pc' L st (ix_up h r (cI 0 n (upd f j x))) Q) : ix_E mi pc L (.int x :: .int (nI j) :: .ref r :: st) h Q := by
  obtain ⟨a1, a2, a3, a4, a5⟩ := a
  refine jx1 (pc' := pc') (L' := L) (st' := st) (h' := ix_up h r (cI 0 n (upd f j x))) ?_ q
  rw [ix_s1_of hi rfl rfl ht]
  have e1 := nI_clamp (n := j) (by omega)
  have e2 := nI_pos (n := j) (by omega)
  simp only [ix_x1, ix_as, a1, e1, hp]
  rw [if_pos ⟨trivial, a2, a3, e2, hj⟩]
/-- the same over a cell that has been written before -/
theorem jas' {r n j : Nat} {f g : Nat → Int32} {x : Int32} (a : ix_ia h r 0 n g) (hi : ix_ins mi pc = some .iastore) (ht : ix_thr mi pc = none) (hj : j < n) (hp : pc + 1 = pc') (q : ix_E mi pc' L st (ix_up h r (cI 0 n (upd f j x))) Q) : ix_E mi pc L (.int x :: .int (nI j) :: .ref r :: st) (ix_up h r (cI 0 n f)) Q :=
  jas (a.nw f) hi ht hj hp (by rw [ix_up_up]; exact q)
theorem jlen {r t n : Nat} {f : Nat → Int32} (a : ix_ia h r t n f) (hi : ix_ins mi pc = some .arraylength) (ht : ix_thr mi pc = none) (hp : pc + 1 = pc') (q : ix_E mi pc' L (.int (nI n) :: st) h Q) : ix_E mi pc L (.ref r :: st) h Q := by
  obtain ⟨a1, a2, a3, a4, a5⟩ := a
  refine jx1 (pc' := pc') (L' := L) (st' := .int (nI n) :: st) (h' := h) ?_ q
  rw [ix_s1_of hi rfl rfl ht]
  simp only [ix_x1, ix_len, a1, hp]
  rw [if_pos ⟨Or.inl a5, a3⟩]
  rfl
/-- a branch is taken, is not taken -/
theorem jct {c : ClassFile.Cond} {off : Int} {x y : Int32} (hi : ix_ins mi pc = some (.if_icmp c off)) (ht : ix_thr mi pc = none) (hp : (pc : Int) + off = (pc' : Int)) (hc : ix_cc c x y = true) (q : ix_E mi pc' L st h Q) : ix_E mi pc L (.int y :: .int x :: st) h Q := by
  refine jx1 (pc' := pc') (L' := L) (st' := st) (h' := h) ?_ q
  rw [ix_s1_of hi rfl rfl ht]
  simp only [ix_x1, ix_x0, ix_ic, hp, hc, if_true]
  rw [if_pos (Int.natCast_nonneg _)]
  rfl
theorem jcn {c : ClassFile.Cond} {off : Int} {x y : Int32} (t : Nat) (hi : ix_ins mi pc = some (.if_icmp c off)) (ht : ix_thr mi pc = none) (ho : (pc : Int) + off = (t : Int)) (hp : pc + 3 = pc') (hc : ix_cc c x y = false) (q : ix_E mi pc' L st h Q) : ix_E mi pc L (.int y :: .int x :: st) h Q := by
  refine jx1 (pc' := pc') (L' := L) (st' := st) (h' := h) ?_ q
  rw [ix_s1_of hi rfl rfl ht]
  simp only [ix_x1, ix_x0, ix_ic, ho, hc, hp]
  rw [if_pos (Int.natCast_nonneg _)]
  rfl
theorem jit {c : ClassFile.Cond} {off : Int} {x : Int32} (hi : ix_ins mi pc = some (.ifCond c off)) (ht : ix_thr mi pc = none) (hp : (pc : Int) + off = (pc' : Int)) (hc : ix_cc c x 0 = true) (q : ix_E mi pc' L st h Q) : ix_E mi pc L (.int x :: st) h Q := by
  refine jx1 (pc' := pc') (L' := L) (st' := st) (h' := h) ?_ q
  rw [ix_s1_of hi rfl rfl ht]
  simp only [ix_x1, ix_x0, ix_if, hp, hc, if_true]
  rw [if_pos (Int.natCast_nonneg _)]
  rfl
theorem jin {c : ClassFile.Cond} {off : Int} {x : Int32} (t : Nat) (hi : ix_ins mi pc = some (.ifCond c off)) (ht : ix_thr mi pc = none) (ho : (pc : Int) + off = (t : Int)) (hp : pc + 3 = pc') (hc : ix_cc c x 0 = false) (q : ix_E mi pc' L st h Q) : ix_E mi pc L (.int x :: st) h Q := by
  refine jx1 (pc' := pc') (L' := L) (st' := st) (h' := h) ?_ q
  rw [ix_s1_of hi rfl rfl ht]
  simp only [ix_x1, ix_x0, ix_if, ho, hc, hp]
  rw [if_pos (Int.natCast_nonneg _)]
  rfl
/-- an int is returned -/
theorem jri {x : Int32} (hi : ix_ins mi pc = some .ireturn) (hr : ix_rt mi = some .int) (q : Q (.inl (some (.int x))) h) : ix_E mi pc L [.int x] h Q := by
  refine ix_qr .ireturn hi rfl (v := some (.int x)) ?_ q
  rw [hr]
  have e : narrow .int (.int x) = .int x := rfl
  simp only [ix_rv, e, if_true]
/-- a static method is called, a method of an object -/
theorem jcs {i : Instr} {k : Nat} (mj : Nat) (as rest : List Value) (hi : ix_ins mi pc = some i) (hz : ix_isr i = false) (hy : ix_ix i = some k) (hc : ix_cal (ix_o mi) k = some (0, mj)) (hp : pc + 3 = pc') (hs : st = as.reverse ++ rest) (hn : as.length = ix_na' mj) (ho : ix_ok i mi mj L.length st h = true) (q : ix_M mj as h (ix_K mi pc pc' L rest Q)) : ix_E mi pc L st h Q := ix_qc i k mj as rest hi hz hy hc hp hs hn ho q
theorem jk {v : Option Value} (q : ix_E mi pc' L (v.toList ++ rest) h Q) : ix_K mi pc pc' L rest Q (.inl v) h := q
def ix_ok' (i : Instr) (mi mj n : Nat) (st : List Value) : Prop := (Nat.beq n (ix_ml mi) && ix_kd i mj && Nat.ble (ix_na' mj) st.length && Nat.ble (ix_fr mj + 1) (ix_fr mi) && Nat.ble (ix_wd mj + (ix_ml mj + 19)) (ix_wd mi) && Nat.ble ((st.drop (ix_na' mj)).map Value.category).sum 8 && Nat.ble ((st.take (ix_na' mj)).map Value.category).sum (ix_ml mj)) = true
theorem jcv {i : Instr} {k r : Nat} {fs : List Value} (mj : Nat) (as rest : List Value) (a : ix_ob h r (ix_ci mj) fs) (hi : ix_ins mi pc = some i) (hz : ix_isr i = false) (hy : ix_ix i = some k) (hc : ix_cal (ix_o mi) k = some (0, mj)) (hp : pc + 3 = pc') (hs : st = (.ref r :: as).reverse ++ rest) (hn : (Value.ref r :: as).length = ix_na' mj) (ho : ix_ok' i mi mj L.length st) (q : ix_M mj (.ref r :: as) h (ix_K mi pc pc' L rest Q)) : ix_E mi pc L st h Q := by
  refine ix_qc i k mj (.ref r :: as) rest hi hz hy hc hp hs hn ?_ q
  obtain ⟨a1, a2, a3, a4⟩ := a
  unfold ix_ok
  rw [ho, Bool.true_and]
  have e1 : (st.take (ix_na' mj)).reverse = .ref r :: as := by rw [hs, ← hn, ← List.length_reverse, List.take_left', List.reverse_reverse]; rfl
  rw [e1]
  have e2 : Nat.blt r 32 = false := by
    cases z : Nat.blt r 32 with
    | false => rfl
    | true => have := Nat.le_of_ble_eq_true z; omega
  have e3 : Nat.beq (ix_ci mj) 100 = false := by
    cases z : Nat.beq (ix_ci mj) 100 with
    | false => rfl
    | true => have := Nat.eq_of_beq_eq_true z; omega
  have e4 : Nat.blt r h.1 = true := Nat.ble_eq_true_of_le a3
  have e5 : Nat.beq (ix_ci mj) (ix_ci mj) = true := Nat.beq_refl _
  simp only [ix_rc, a1, e2, e3, e4, e5]
  simp
theorem cc_ge {a b : Nat} (ha : a < 2 ^ 31) (hb : b < 2 ^ 31) : ix_cc .ge (nI a) (nI b) = decide (b ≤ a) := by simp only [ix_cc, nI_leI hb ha]
theorem cc_lt {a b : Nat} (ha : a < 2 ^ 31) (hb : b < 2 ^ 31) : ix_cc .lt (nI a) (nI b) = decide (a < b) := by simp only [ix_cc, nI_ltI ha hb]
theorem cc_gt {a b : Nat} (ha : a < 2 ^ 31) (hb : b < 2 ^ 31) : ix_cc .gt (nI a) (nI b) = decide (b < a) := by simp only [ix_cc, nI_ltI hb ha]
theorem cc_le {a b : Nat} (ha : a < 2 ^ 31) (hb : b < 2 ^ 31) : ix_cc .le (nI a) (nI b) = decide (a ≤ b) := by simp only [ix_cc, nI_leI ha hb]
theorem cc_eq {a b : Nat} (ha : a < 2 ^ 31) (hb : b < 2 ^ 31) : ix_cc .eq (nI a) (nI b) = decide (a = b) := by simp only [ix_cc, nI_eq ha hb]
theorem cc_ne {a b : Nat} (ha : a < 2 ^ 31) (hb : b < 2 ^ 31) : ix_cc .ne (nI a) (nI b) = decide (¬ a = b) := by simp only [ix_cc, nI_eq ha hb]
theorem cz_eq {a : Nat} (ha : a < 2 ^ 31) : ix_cc .eq (nI a) 0 = decide (a = 0) := cc_eq (b := 0) ha (by decide)
theorem cz_ne {a : Nat} (ha : a < 2 ^ 31) : ix_cc .ne (nI a) 0 = decide (¬ a = 0) := cc_ne (b := 0) ha (by decide)
theorem cz_lt {a : Nat} (ha : a < 2 ^ 31) : ix_cc .lt (nI a) 0 = decide (a < 0) := cc_lt (b := 0) ha (by decide)
theorem cz_ge {a : Nat} (ha : a < 2 ^ 31) : ix_cc .ge (nI a) 0 = decide (0 ≤ a) := cc_ge (b := 0) ha (by decide)
theorem cz_gt {a : Nat} (ha : a < 2 ^ 31) : ix_cc .gt (nI a) 0 = decide (0 < a) := cc_gt (b := 0) ha (by decide)
theorem cz_le {a : Nat} (ha : a < 2 ^ 31) : ix_cc .le (nI a) 0 = decide (a ≤ 0) := cc_le (b := 0) ha (by decide)
theorem nI_mul (a b : Nat) : nI a * nI b = nI (a * b) := (Int32.ofNat_mul a b).symm
theorem nI_sub {a b : Nat} (h : b ≤ a) : nI a - nI b = nI (a - b) := by
  have e : nI (a - b) + nI b = nI a := by rw [nI_add]; congr 1; omega
  rw [← e]
  exact Int32.add_sub_cancel _ _
theorem nI_d (a : Nat) : nI (a + 1) + Int32.ofInt (-1) = nI a := by
  have e : nI (a + 1) = nI a + 1 := nI_succ a
  rw [e, show Int32.ofInt (-1) = -1 from by decide, ← Int32.sub_eq_add_neg]
  exact Int32.add_sub_cancel _ _
theorem upd_nI (f : Nat → Nat) (k x : Nat) : upd (fun j => nI (f j)) k (nI x) = fun j => nI (va_up f k x j) := by
  funext j
  unfold upd va_up
  split <;> rfl
theorem nI_i (a : Nat) : nI a + Int32.ofInt 1 = nI (a + 1) := nI_1 a
end IXW
theorem ki0 : Int32.ofInt 0 = nI 0 := by decide
theorem ki1 : Int32.ofInt 1 = nI 1 := by decide
theorem ki2 : Int32.ofInt 2 = nI 2 := by decide
theorem ki3 : Int32.ofInt 3 = nI 3 := by decide
theorem ki4 : Int32.ofInt 4 = nI 4 := by decide
theorem ki5 : Int32.ofInt 5 = nI 5 := by decide
theorem kb6 : (Int8.ofInt 6).toInt32 = nI 6 := by decide
theorem kb7 : (Int8.ofInt 7).toInt32 = nI 7 := by decide
theorem kb8 : (Int8.ofInt 8).toInt32 = nI 8 := by decide
theorem kb9 : (Int8.ofInt 9).toInt32 = nI 9 := by decide
theorem kb10 : (Int8.ofInt 10).toInt32 = nI 10 := by decide
theorem kb11 : (Int8.ofInt 11).toInt32 = nI 11 := by decide
theorem kb12 : (Int8.ofInt 12).toInt32 = nI 12 := by decide
theorem kb14 : (Int8.ofInt 14).toInt32 = nI 14 := by decide
theorem kb15 : (Int8.ofInt 15).toInt32 = nI 15 := by decide
theorem kb16 : (Int8.ofInt 16).toInt32 = nI 16 := by decide
theorem kb17 : (Int8.ofInt 17).toInt32 = nI 17 := by decide
theorem kb18 : (Int8.ofInt 18).toInt32 = nI 18 := by decide
theorem kb19 : (Int8.ofInt 19).toInt32 = nI 19 := by decide
theorem kb20 : (Int8.ofInt 20).toInt32 = nI 20 := by decide
theorem kb24 : (Int8.ofInt 24).toInt32 = nI 24 := by decide
theorem kb29 : (Int8.ofInt 29).toInt32 = nI 29 := by decide
theorem kb31 : (Int8.ofInt 31).toInt32 = nI 31 := by decide
theorem kb32 : (Int8.ofInt 32).toInt32 = nI 32 := by decide
theorem kb34 : (Int8.ofInt 34).toInt32 = nI 34 := by decide
theorem kb39 : (Int8.ofInt 39).toInt32 = nI 39 := by decide
theorem kb40 : (Int8.ofInt 40).toInt32 = nI 40 := by decide
theorem kb41 : (Int8.ofInt 41).toInt32 = nI 41 := by decide
theorem kb43 : (Int8.ofInt 43).toInt32 = nI 43 := by decide
theorem kb45 : (Int8.ofInt 45).toInt32 = nI 45 := by decide
theorem kb46 : (Int8.ofInt 46).toInt32 = nI 46 := by decide
theorem kb48 : (Int8.ofInt 48).toInt32 = nI 48 := by decide
theorem kb50 : (Int8.ofInt 50).toInt32 = nI 50 := by decide
theorem kb56 : (Int8.ofInt 56).toInt32 = nI 56 := by decide
theorem kb57 : (Int8.ofInt 57).toInt32 = nI 57 := by decide
theorem kb64 : (Int8.ofInt 64).toInt32 = nI 64 := by decide
theorem kb65 : (Int8.ofInt 65).toInt32 = nI 65 := by decide
theorem kb69 : (Int8.ofInt 69).toInt32 = nI 69 := by decide
theorem kb80 : (Int8.ofInt 80).toInt32 = nI 80 := by decide
theorem kb96 : (Int8.ofInt 96).toInt32 = nI 96 := by decide
theorem kb97 : (Int8.ofInt 97).toInt32 = nI 97 := by decide
theorem kb101 : (Int8.ofInt 101).toInt32 = nI 101 := by decide
theorem kb110 : (Int8.ofInt 110).toInt32 = nI 110 := by decide
theorem kb120 : (Int8.ofInt 120).toInt32 = nI 120 := by decide
theorem kb122 : (Int8.ofInt 122).toInt32 = nI 122 := by decide
theorem kb127 : (Int8.ofInt 127).toInt32 = nI 127 := by decide
theorem ks128 : (Int16.ofInt 128).toInt32 = nI 128 := by decide
theorem ks130 : (Int16.ofInt 130).toInt32 = nI 130 := by decide
theorem ks200 : (Int16.ofInt 200).toInt32 = nI 200 := by decide
theorem ks255 : (Int16.ofInt 255).toInt32 = nI 255 := by decide
theorem ks320 : (Int16.ofInt 320).toInt32 = nI 320 := by decide
theorem ks384 : (Int16.ofInt 384).toInt32 = nI 384 := by decide
theorem ks398 : (Int16.ofInt 398).toInt32 = nI 398 := by decide
theorem ks480 : (Int16.ofInt 480).toInt32 = nI 480 := by decide
theorem ks1000 : (Int16.ofInt 1000).toInt32 = nI 1000 := by decide
theorem ks6144 : (Int16.ofInt 6144).toInt32 = nI 6144 := by decide
theorem ks6176 : (Int16.ofInt 6176).toInt32 = nI 6176 := by decide
theorem ks12500 : (Int16.ofInt 12500).toInt32 = nI 12500 := by decide
theorem ks16384 : (Int16.ofInt 16384).toInt32 = nI 16384 := by decide
theorem ks25399 : (Int16.ofInt 25399).toInt32 = nI 25399 := by decide
theorem ks25400 : (Int16.ofInt 25400).toInt32 = nI 25400 := by decide
theorem kl99999999 : (99999999 : Int32) = nI 99999999 := by decide
theorem kl999999999 : (999999999 : Int32) = nI 999999999 := by decide
theorem kl1000000000 : (1000000000 : Int32) = nI 1000000000 := by decide
theorem kl1610612736 : (1610612736 : Int32) = nI 1610612736 := by decide
theorem kl2013265920 : (2013265920 : Int32) = nI 2013265920 := by decide
theorem kl2080374784 : (2080374784 : Int32) = nI 2080374784 := by decide
theorem kl2113929216 : (2113929216 : Int32) = nI 2113929216 := by decide
