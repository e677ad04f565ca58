/-! ===== walking: straight stretches, cells, branches ===== -/
/-- a step that looks at locals, operands and constants alone -/
noncomputable def ix_s1 (mi pc : Nat) (L : ix_L) (st : List Value) (h : ix_H) : Option ix_S := match ix_ins mi pc with
  | some i => match ix_isr i, ix_ix i, ix_thr mi pc with
    | false, none, none => ix_x1 (ix_ini mi) (ix_o mi) i pc L st h
    | _, _, _ => none
  | none => none
noncomputable def ix_ru : Nat → Nat → Nat → ix_L → List Value → ix_H → Option ix_S
  | 0, _, pc, L, st, h => some (pc, L, st, h)
  | k + 1, mi, pc, L, st, h => match ix_s1 mi pc L st h with
    | some z => ix_ru k mi z.1 z.2.1 z.2.2.1 z.2.2.2
    | none => none
section IXW
variable {mi pc pc' mj k : Nat} {i : Instr} {L L' : ix_L} {st st' rest as : List Value} {h h' : ix_H} {Q : ix_O → ix_H → Prop}
theorem jx1 (hx : ix_s1 mi pc L st h = some (pc', L', st', h')) (q : ix_E mi pc' L' st' h' Q) : ix_E mi pc L st h Q := by
  unfold ix_s1 at hx
  cases hi : ix_ins mi pc with
  | none => rw [hi] at hx; cases hx
  | some i =>
    rw [hi] at hx
    simp only at hx
    split at hx
    · next a b c => exact ix_q1 i pc' hi a b c hx q
    · cases hx
/-- k steps at once -/
theorem jx (k : Nat) (hx : ix_ru k mi pc L st h = some (pc', L', st', h')) (q : ix_E mi pc' L' st' h' Q) : ix_E mi pc L st h Q := by
  induction k generalizing pc L st h with
  | zero => cases hx; exact q
  | succ k ih =>
    rw [ix_ru] at hx
    split at hx
    · next z hz => exact jx1 (by rw [hz]) (ih hx)
    · cases hx
/-- an object, an array of ints (its type's number t), of longs -/
def ix_ob (h : ix_H) (r ci : Nat) (fs : List Value) : Prop := h.2.2 r = .inr (ci, fs) ∧ 32 ≤ r ∧ r < h.1 ∧ ci < 100
def ix_ia (h : ix_H) (r t n : Nat) (f : Nat → Int32) : Prop := h.2.2 r = .inl (t, n, .inl f) ∧ 32 ≤ r ∧ r < h.1 ∧ n ≤ 100000 ∧ t < 5
def ix_la (h : ix_H) (r n : Nat) (f : Nat → Int64) : Prop := h.2.2 r = .inl (1, n, .inr (.inl f)) ∧ 32 ≤ r ∧ r < h.1 ∧ n ≤ 100000
def ix_ra (h : ix_H) (r n : Nat) (f : Nat → Option Nat) : Prop := h.2.2 r = .inl (4, n, .inr (.inr (.inr (.inr f)))) ∧ 32 ≤ r ∧ r < h.1 ∧ n ≤ 100000
abbrev cI (t n : Nat) (f : Nat → Int32) : ix_C := .inl (t, n, .inl f)
abbrev cL (n : Nat) (f : Nat → Int64) : ix_C := .inl (1, n, .inr (.inl f))
abbrev cO (ci : Nat) (fs : List Value) : ix_C := .inr (ci, fs)
theorem ix_up_up (h : ix_H) (r : Nat) (a b : ix_C) : ix_up (ix_up h r a) r b = ix_up h r b := by
  unfold ix_up va_up
  refine Prod.ext rfl (Prod.ext rfl ?_)
  funext j
  by_cases e : j = r <;> simp [e]
theorem ix_up_sw (h : ix_H) {r q : Nat} (a b : ix_C) (hn : r ≠ q) : ix_up (ix_up h r a) q b = ix_up (ix_up h q b) r a := by
  unfold ix_up va_up
  refine Prod.ext rfl (Prod.ext rfl ?_)
  funext j
  by_cases e : j = r
  · have : ¬ j = q := fun z => hn (e ▸ z)
    simp [e, hn]
  · simp [e]
theorem ix_up_id {h : ix_H} {r : Nat} {a : ix_C} (e : h.2.2 r = a) : ix_up h r a = h := by
  unfold ix_up va_up
  refine Prod.ext rfl (Prod.ext rfl ?_)
  funext j
  by_cases z : j = r <;> simp [z, e]
theorem ix_ia.id {r t n : Nat} {f : Nat → Int32} (a : ix_ia h r t n f) : ix_up h r (cI t n f) = h := ix_up_id a.1
theorem ix_ob.id {r ci : Nat} {fs : List Value} (a : ix_ob h r ci fs) : ix_up h r (cO ci fs) = h := ix_up_id a.1
theorem ix_ia.nw {r t n : Nat} {f : Nat → Int32} (a : ix_ia h r t n f) (g : Nat → Int32) : ix_ia (ix_up h r (cI t n g)) r t n g := ⟨by simp [ix_up, va_up], a.2⟩
theorem ix_ob.nw {r ci : Nat} {fs : List Value} (a : ix_ob h r ci fs) (gs : List Value) : ix_ob (ix_up h r (cO ci gs)) r ci gs := ⟨by simp [ix_up, va_up], a.2⟩
theorem ix_la.nw {r n : Nat} {f : Nat → Int64} (a : ix_la h r n f) (g : Nat → Int64) : ix_la (ix_up h r (cL n g)) r n g := ⟨by simp [ix_up, va_up], a.2⟩
theorem ix_ia.up {r t n q : Nat} {f : Nat → Int32} {c : ix_C} (a : ix_ia h r t n f) (e : r ≠ q) : ix_ia (ix_up h q c) r t n f := ⟨by simp [ix_up, va_up, e, a.1], a.2⟩
theorem ix_ob.up {r ci q : Nat} {fs : List Value} {c : ix_C} (a : ix_ob h r ci fs) (e : r ≠ q) : ix_ob (ix_up h q c) r ci fs := ⟨by simp [ix_up, va_up, e, a.1], a.2⟩
theorem ix_la.up {r n q : Nat} {f : Nat → Int64} {c : ix_C} (a : ix_la h r n f) (e : r ≠ q) : ix_la (ix_up h q c) r n f := ⟨by simp [ix_up, va_up, e, a.1], a.2⟩
theorem ix_ra.up {r n q : Nat} {f : Nat → Option Nat} {c : ix_C} (a : ix_ra h r n f) (e : r ≠ q) : ix_ra (ix_up h q c) r n f := ⟨by simp [ix_up, va_up, e, a.1], a.2⟩
theorem ix_ob.ne {r q t n ci : Nat} {fs : List Value} {f : Nat → Int32} (a : ix_ob h r ci fs) (b : ix_ia h q t n f) : r ≠ q := fun e => by
  have := a.1
  rw [e, b.1] at this
  cases this
theorem ix_s1_of {i : Instr} (hi : ix_ins mi pc = some i) (h1 : ix_isr i = false) (h2 : ix_ix i = none) (h3 : ix_thr mi pc = none) : ix_s1 mi pc L st h = ix_x1 (ix_ini mi) (ix_o mi) i pc L st h := by
  unfold ix_s1
  rw [hi]
  simp only [h1, h2, h3]
/-- a field is read -/
theorem jgf {r ci k idx : Nat} {fs : List Value} {v : Value} (a : ix_ob h r ci fs) (hi : ix_ins mi pc = some (.getfield idx)) (ht : ix_thr mi pc = none) (hf : ix_fl (ix_o mi) idx = some (ci, k)) (hv : fs[k]? = some v) (hp : pc + 3 = pc') (q : ix_E mi pc' L (v :: st) h Q) : ix_E mi pc L (.ref r :: st) h Q := by
  obtain ⟨a1, a2, a3, a4⟩ := a
  refine jx1 (pc' := pc') (L' := L) (st' := v :: st) (h' := h) ?_ q
  rw [ix_s1_of hi rfl rfl ht]
  have e1 : Nat.blt r 32 = Nat.beq ci 100 := by
    have e2 : Nat.blt r 32 = false := by
      cases z : Nat.blt r 32 with
      | false => rfl
      | true => have := Nat.le_of_ble_eq_true z; omega
    have e3 : Nat.beq ci 100 = false := by
      cases z : Nat.beq ci 100 with
      | false => rfl
      | true => have := Nat.eq_of_beq_eq_true z; omega
    rw [e2, e3]
  simp only [ix_x1, ix_gf, hf, a1, e1, a3, and_self, if_true, hv, hp]
/-- a field is written -/
theorem jpf {r ci k idx : Nat} {fs : List Value} {v : Value} (a : ix_ob h r ci fs) (hi : ix_ins mi pc = some (.putfield idx)) (ht : ix_thr mi pc = none) (hf : ix_fld (ix_o mi) idx = some (ci, k)) (hk : k < fs.length) (hfin : ix_fin ci k = true → ix_ini mi = true ∧ ix_o mi = ix_oc ci) (hn : narrow (ix_fty ci k) v = v) (hs : fits (ix_fty ci k) v = true) (hp : pc + 3 = pc') (q : ix_E mi pc' L st (ix_up h r (cO ci (fs.set k v))) Q) : ix_E mi pc L (v :: .ref r :: st) h Q := by
  obtain ⟨a1, a2, a3, a4⟩ := a
  refine jx1 (pc' := pc') (L' := L) (st' := st) (h' := ix_up h r (cO ci (fs.set k v))) ?_ q
  rw [ix_s1_of hi rfl rfl ht]
  simp only [ix_x1, ix_pf, hf, a1, hp]
  rw [if_pos ⟨trivial, a2, a3, hk, hfin, hn, hs⟩]
/-- an element of an array of ints is read -/
theorem jal {r n j : Nat} {f : Nat → Int32} (a : ix_ia h r 0 n f) (hi : ix_ins mi pc = some .iaload) (ht : ix_thr mi pc = none) (hj : j < n) (hp : pc + 1 = pc') (q : ix_E mi pc' L (.int (f j) :: st) h Q) : ix_E mi pc L (.int (nI j) :: .ref r :: st) h Q := by
  obtain ⟨a1, a2, a3, a4, a5⟩ := a
  refine jx1 (pc' := pc') (L' := L) (st' := .int (f j) :: st) (h' := h) ?_ q
  rw [ix_s1_of hi rfl rfl ht]
  have e1 := nI_clamp (n := j) (by omega)
  have e2 := nI_pos (n := j) (by omega)
  simp only [ix_x1, ix_al, a1, e1, hp]
  rw [if_pos ⟨trivial, Or.inl a2, a3, e2, hj⟩]
/-- an element of an array of ints is written -/
theorem jas {r n j : Nat} {f : Nat → Int32} {x : Int32} (a : ix_ia h r 0 n f) (hi : ix_ins mi pc = some .iastore) (ht : ix_thr mi pc = none) (hj : j < n) (hp : pc + 1 = pc') (q : ix_E mi pc' L st (ix_up h r (cI 0 n (upd f j x))) Q) : ix_E mi pc L (.int x :: .int (nI j) :: .ref r :: st) h Q := by
  obtain ⟨a1, a2, a3, a4, a5⟩ := a
  refine jx1 (pc' := pc') (L' := L) (st' := st) (h' := ix_up h r (cI 0 n (upd f j x))) ?_ q
  rw [ix_s1_of hi rfl rfl ht]
  have e1 := nI_clamp (n := j) (by omega)
  have e2 := nI_pos (n := j) (by omega)
  simp only [ix_x1, ix_as, a1, e1, hp]
  rw [if_pos ⟨trivial, a2, a3, e2, hj⟩]
/-- the same over a cell that has been written before -/
theorem jas' {r n j : Nat} {f g : Nat → Int32} {x : Int32} (a : ix_ia h r 0 n g) (hi : ix_ins mi pc = some .iastore) (ht : ix_thr mi pc = none) (hj : j < n) (hp : pc + 1 = pc') (q : ix_E mi pc' L st (ix_up h r (cI 0 n (upd f j x))) Q) : ix_E mi pc L (.int x :: .int (nI j) :: .ref r :: st) (ix_up h r (cI 0 n f)) Q :=
  jas (a.nw f) hi ht hj hp (by rw [ix_up_up]; exact q)
theorem jlen {r t n : Nat} {f : Nat → Int32} (a : ix_ia h r t n f) (hi : ix_ins mi pc = some .arraylength) (ht : ix_thr mi pc = none) (hp : pc + 1 = pc') (q : ix_E mi pc' L (.int (nI n) :: st) h Q) : ix_E mi pc L (.ref r :: st) h Q := by
  obtain ⟨a1, a2, a3, a4, a5⟩ := a
  refine jx1 (pc' := pc') (L' := L) (st' := .int (nI n) :: st) (h' := h) ?_ q
  rw [ix_s1_of hi rfl rfl ht]
  simp only [ix_x1, ix_len, a1, hp]
  rw [if_pos ⟨Or.inl a5, a3⟩]
  rfl
/-- a branch is taken, is not taken -/
theorem jct {c : ClassFile.Cond} {off : Int} {x y : Int32} (hi : ix_ins mi pc = some (.if_icmp c off)) (ht : ix_thr mi pc = none) (hp : (pc : Int) + off = (pc' : Int)) (hc : ix_cc c x y = true) (q : ix_E mi pc' L st h Q) : ix_E mi pc L (.int y :: .int x :: st) h Q := by
  refine jx1 (pc' := pc') (L' := L) (st' := st) (h' := h) ?_ q
  rw [ix_s1_of hi rfl rfl ht]
  simp only [ix_x1, ix_x0, ix_ic, hp, hc, if_true]
  rw [if_pos (Int.natCast_nonneg _)]
  rfl
theorem jcn {c : ClassFile.Cond} {off : Int} {x y : Int32} (t : Nat) (hi : ix_ins mi pc = some (.if_icmp c off)) (ht : ix_thr mi pc = none) (ho : (pc : Int) + off = (t : Int)) (hp : pc + 3 = pc') (hc : ix_cc c x y = false) (q : ix_E mi pc' L st h Q) : ix_E mi pc L (.int y :: .int x :: st) h Q := by
  refine jx1 (pc' := pc') (L' := L) (st' := st) (h' := h) ?_ q
  rw [ix_s1_of hi rfl rfl ht]
  simp only [ix_x1, ix_x0, ix_ic, ho, hc, hp]
  rw [if_pos (Int.natCast_nonneg _)]
  rfl
theorem jit {c : ClassFile.Cond} {off : Int} {x : Int32} (hi : ix_ins mi pc = some (.ifCond c off)) (ht : ix_thr mi pc = none) (hp : (pc : Int) + off = (pc' : Int)) (hc : ix_cc c x 0 = true) (q : ix_E mi pc' L st h Q) : ix_E mi pc L (.int x :: st) h Q := by
  refine jx1 (pc' := pc') (L' := L) (st' := st) (h' := h) ?_ q
  rw [ix_s1_of hi rfl rfl ht]
  simp only [ix_x1, ix_x0, ix_if, hp, hc, if_true]
  rw [if_pos (Int.natCast_nonneg _)]
  rfl
theorem jin {c : ClassFile.Cond} {off : Int} {x : Int32} (t : Nat) (hi : ix_ins mi pc = some (.ifCond c off)) (ht : ix_thr mi pc = none) (ho : (pc : Int) + off = (t : Int)) (hp : pc + 3 = pc') (hc : ix_cc c x 0 = false) (q : ix_E mi pc' L st h Q) : ix_E mi pc L (.int x :: st) h Q := by
  refine jx1 (pc' := pc') (L' := L) (st' := st) (h' := h) ?_ q
  rw [ix_s1_of hi rfl rfl ht]
  simp only [ix_x1, ix_x0, ix_if, ho, hc, hp]
  rw [if_pos (Int.natCast_nonneg _)]
  rfl
/-- a static method is called, a method of an object -/
theorem jcs {i : Instr} {k : Nat} (mj : Nat) (as rest : List Value) (hi : ix_ins mi pc = some i) (hz : ix_isr i = false) (hy : ix_ix i = some k) (hc : ix_cal (ix_o mi) k = some (0, mj)) (hp : pc + 3 = pc') (hs : st = as.reverse ++ rest) (hn : as.length = ix_na' mj) (ho : ix_ok i mi mj L.length st h = true) (q : ix_M mj as h (ix_K mi pc pc' L rest Q)) : ix_E mi pc L st h Q := ix_qc i k mj as rest hi hz hy hc hp hs hn ho q
theorem jk {v : Option Value} (q : ix_E mi pc' L (v.toList ++ rest) h Q) : ix_K mi pc pc' L rest Q (.inl v) h := q
def ix_ok' (i : Instr) (mi mj n : Nat) (st : List Value) : Prop := (Nat.beq n (ix_ml mi) && ix_kd i mj && Nat.ble (ix_na' mj) st.length && Nat.ble (ix_fr mj + 1) (ix_fr mi) && Nat.ble (ix_wd mj + (ix_ml mj + 19)) (ix_wd mi) && Nat.ble ((st.drop (ix_na' mj)).map Value.category).sum 8 && Nat.ble ((st.take (ix_na' mj)).map Value.category).sum (ix_ml mj)) = true
theorem jcv {i : Instr} {k r : Nat} {fs : List Value} (mj : Nat) (as rest : List Value) (a : ix_ob h r (ix_ci mj) fs) (hi : ix_ins mi pc = some i) (hz : ix_isr i = false) (hy : ix_ix i = some k) (hc : ix_cal (ix_o mi) k = some (0, mj)) (hp : pc + 3 = pc') (hs : st = (.ref r :: as).reverse ++ rest) (hn : (Value.ref r :: as).length = ix_na' mj) (ho : ix_ok' i mi mj L.length st) (q : ix_M mj (.ref r :: as) h (ix_K mi pc pc' L rest Q)) : ix_E mi pc L st h Q := by
  refine ix_qc i k mj (.ref r :: as) rest hi hz hy hc hp hs hn ?_ q
  obtain ⟨a1, a2, a3, a4⟩ := a
  unfold ix_ok
  rw [ho, Bool.true_and]
  have e1 : (st.take (ix_na' mj)).reverse = .ref r :: as := by rw [hs, ← hn, ← List.length_reverse, List.take_left', List.reverse_reverse]; rfl
  rw [e1]
  have e2 : Nat.blt r 32 = false := by
    cases z : Nat.blt r 32 with
    | false => rfl
    | true => have := Nat.le_of_ble_eq_true z; omega
  have e3 : Nat.beq (ix_ci mj) 100 = false := by
    cases z : Nat.beq (ix_ci mj) 100 with
    | false => rfl
    | true => have := Nat.eq_of_beq_eq_true z; omega
  have e4 : Nat.blt r h.1 = true := Nat.ble_eq_true_of_le a3
  have e5 : Nat.beq (ix_ci mj) (ix_ci mj) = true := Nat.beq_refl _
  simp only [ix_rc, a1, e2, e3, e4, e5]
  simp
theorem cc_ge {a b : Nat} (ha : a < 2 ^ 31) (hb : b < 2 ^ 31) : ix_cc .ge (nI a) (nI b) = decide (b ≤ a) := by simp only [ix_cc, nI_leI hb ha]
theorem cc_lt {a b : Nat} (ha : a < 2 ^ 31) (hb : b < 2 ^ 31) : ix_cc .lt (nI a) (nI b) = decide (a < b) := by simp only [ix_cc, nI_ltI ha hb]
theorem cc_gt {a b : Nat} (ha : a < 2 ^ 31) (hb : b < 2 ^ 31) : ix_cc .gt (nI a) (nI b) = decide (b < a) := by simp only [ix_cc, nI_ltI hb ha]
theorem cc_le {a b : Nat} (ha : a < 2 ^ 31) (hb : b < 2 ^ 31) : ix_cc .le (nI a) (nI b) = decide (a ≤ b) := by simp only [ix_cc, nI_leI ha hb]
theorem cc_eq {a b : Nat} (ha : a < 2 ^ 31) (hb : b < 2 ^ 31) : ix_cc .eq (nI a) (nI b) = decide (a = b) := by simp only [ix_cc, nI_eq ha hb]
theorem cc_ne {a b : Nat} (ha : a < 2 ^ 31) (hb : b < 2 ^ 31) : ix_cc .ne (nI a) (nI b) = decide (¬ a = b) := by simp only [ix_cc, nI_eq ha hb]
theorem nI_i (a : Nat) : nI a + Int32.ofInt 1 = nI (a + 1) := nI_1 a
end IXW
/-- Arrays.fill -/
theorem c_fill {r n : Nat} {f : Nat → Int32} {x : Int32} {h : ix_H} {Q : ix_O → ix_H → Prop} (a : ix_ia h r 0 n f) (q : ∀ g : Nat → Int32, (∀ j, j < n → g j = x) → Q (.inl none) (ix_up h r (cI 0 n g))) : ix_M 284 [.ref r, .int x] h Q := by
  have hn : n ≤ 100000 := a.2.2.2.1
  have loop : ∀ (k j : Nat), j + k = n → ∀ g : Nat → Int32, (∀ i, i < j → g i = x) → ix_E 284 5 [some (.ref r), some (.int x), some (.int (nI j)), some (.int (nI n))] [] (ix_up h r (cI 0 n g)) Q := by
    intro k
    induction k with
    | zero =>
      intro j hj g hg
      refine jx (pc' := 7) (L' := [_, _, _, _]) (st' := [_, _]) 2 rfl ?_
      refine jct (pc' := 20) rfl rfl rfl (by rw [cc_ge (by omega) (by omega)]; exact decide_eq_true (by omega)) ?_
      exact ix_qr _ rfl rfl rfl (q g fun i hi => hg i (by omega))
    | succ k ih =>
      intro j hj g hg
      refine jx (pc' := 7) (L' := [_, _, _, _]) (st' := [_, _]) 2 rfl ?_
      refine jcn (pc' := 10) 20 rfl rfl rfl rfl (by rw [cc_ge (by omega) (by omega)]; exact decide_eq_false (by omega)) ?_
      refine jx (pc' := 13) (L' := [_, _, _, _]) (st' := [_, _, _]) 3 rfl ?_
      refine jas' (pc' := 14) a rfl rfl (by omega) rfl ?_
      refine jx (pc' := 5) (L' := [_, _, _, _]) (st' := []) 2 rfl ?_
      rw [nI_i]
      refine ih (j + 1) (by omega) _ fun i hi => ?_
      unfold upd
      split
      · rfl
      · exact hg i (by omega)
  refine jx (pc' := 3) (L' := [_, _, _, _]) (st' := [_]) 3 rfl ?_
  refine jlen (pc' := 4) a rfl rfl rfl ?_
  refine jx (pc' := 5) (L' := [_, _, _, _]) (st' := []) 1 rfl ?_
  have := loop n 0 (by omega) f (fun i hi => absurd hi (by omega))
  rw [a.id] at this
  exact this
