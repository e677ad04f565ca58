/-! ===== signed ints and longs, booleans; fields over abstract heaps ===== -/
def zL (z : Int) : Int64 := Int64.ofInt z
theorem nz (n : Nat) : nI n = zI (n : Int) := by
  unfold nI zI
  exact (Int32.ofInt_eq_ofNat (n := n)).symm
theorem lz (n : Nat) : lN n = zL (n : Int) := by
  unfold lN zL
  exact (Int64.ofInt_eq_ofNat (n := n)).symm
theorem kz (z : Int) : Int32.ofInt z = zI z := rfl
theorem kzl (n : Nat) : Int64.ofNat n = zL (n : Int) := lz n
theorem kzl0 : Int64.ofNat ((0 : Fin 2) : Nat) = zL 0 := by decide
theorem kzl1 : Int64.ofNat ((1 : Fin 2) : Nat) = zL 1 := by decide
theorem kL200 : (200 : Int64) = zL 200 := by decide
theorem kzb {z : Int} (h1 : -128 ≤ z) (h2 : z < 128) : (Int8.ofInt z).toInt32 = zI z := by
  refine Int32.toInt_inj.mp ?_
  rw [Int8.toInt_toInt32, zI_t ⟨by omega, by omega⟩, Int8.toInt_ofInt, show Int8.size = 256 from rfl]
  simp only [Int.bmod]
  split <;> omega
theorem kzs {z : Int} (h1 : -32768 ≤ z) (h2 : z < 32768) : (Int16.ofInt z).toInt32 = zI z := by
  refine Int32.toInt_inj.mp ?_
  rw [Int16.toInt_toInt32, zI_t ⟨by omega, by omega⟩, Int16.toInt_ofInt, show Int16.size = 65536 from rfl]
  simp only [Int.bmod]
  split <;> omega
theorem zL_t {z : Int} (h1 : -9223372036854775808 ≤ z) (h2 : z < 9223372036854775808) : (zL z).toInt = z := by
  unfold zL
  rw [Int64.toInt_ofInt, show Int64.size = 18446744073709551616 from rfl]
  simp only [Int.bmod]
  split <;> omega
theorem zL_add (a b : Int) : zL a + zL b = zL (a + b) := (Int64.ofInt_add a b).symm
theorem zL_sub (a b : Int) : zL a - zL b = zL (a - b) := (Int64.ofInt_sub a b).symm
theorem zL_neg (a : Int) : -(zL a) = zL (-a) := (Int64.ofInt_neg a).symm
theorem zI_mul (a b : Int) : zI a * zI b = zI (a * b) := (Int32.ofInt_mul a b).symm
theorem zL_i {a : Int} (h1 : -2147483648 ≤ a) (h2 : a < 2147483648) : (zI a).toInt64 = zL a := by
  refine Int64.toInt_inj.mp ?_
  rw [Int32.toInt_toInt64, zI_t ⟨h1, h2⟩, zL_t (by omega) (by omega)]
theorem zI_l {a : Int} (h1 : -2147483648 ≤ a) (h2 : a < 2147483648) : (zL a).toInt32 = zI a := by
  refine Int32.toInt_inj.mp ?_
  rw [Int64.toInt_toInt32, zI_t ⟨h1, h2⟩, zL_t (by omega) (by omega)]
  simp only [Int.bmod]
  split <;> omega
theorem z0 : (0 : Int32) = zI 0 := by decide
theorem zz_lt {a : Int} (h : zr a) : ix_cc .lt (zI a) 0 = decide (a < 0) := by rw [z0, zc_lt h ⟨by decide, by decide⟩]
theorem zz_ge {a : Int} (h : zr a) : ix_cc .ge (zI a) 0 = decide (0 ≤ a) := by rw [z0, zc_ge h ⟨by decide, by decide⟩]
theorem zz_gt {a : Int} (h : zr a) : ix_cc .gt (zI a) 0 = decide (0 < a) := by rw [z0, zc_gt h ⟨by decide, by decide⟩]
theorem zz_le {a : Int} (h : zr a) : ix_cc .le (zI a) 0 = decide (a ≤ 0) := by rw [z0, zc_le h ⟨by decide, by decide⟩]
theorem zz_eq {a : Int} (h : zr a) : ix_cc .eq (zI a) 0 = decide (a = 0) := by rw [z0, zc_eq h ⟨by decide, by decide⟩]
theorem zz_ne {a : Int} (h : zr a) : ix_cc .ne (zI a) 0 = decide (¬ a = 0) := by rw [z0, zc_ne h ⟨by decide, by decide⟩]
theorem bz_eq (b : Bool) : ix_cc .eq (bI b) 0 = !b := by cases b <;> rfl
theorem bz_ne (b : Bool) : ix_cc .ne (bI b) 0 = b := by cases b <;> rfl
def lr (z : Int) : Prop := -9223372036854775808 ≤ z ∧ z < 9223372036854775808
theorem lg_z {a b : Int} (ha : lr a) (hb : lr b) : lg_cmp (zL a) (zL b) = zI (if a < b then -1 else if a = b then 0 else 1) := by
  have e1 : (zL a < zL b) = (a < b) := by rw [Int64.lt_iff_toInt_lt, zL_t ha.1 ha.2, zL_t hb.1 hb.2]
  have e2 : (zL a = zL b) = (a = b) := by rw [← Int64.toInt_inj, zL_t ha.1 ha.2, zL_t hb.1 hb.2]
  have e3 : (zL b < zL a) = (b < a) := by rw [Int64.lt_iff_toInt_lt, zL_t ha.1 ha.2, zL_t hb.1 hb.2]
  unfold lg_cmp
  rcases Int.lt_trichotomy a b with c | c | c
  · have n1 : ¬ a = b := by omega
    have n2 : ¬ b < a := by omega
    simp [e1, e2, e3, c, n1, n2, Int64.lt_iff_toInt_lt, zL_t ha.1 ha.2, zL_t hb.1 hb.2]
    try decide
  · subst c
    have n2 : ¬ a < a := by omega
    simp [e1, e2, e3, n2, Int64.lt_iff_toInt_lt, zL_t ha.1 ha.2, zL_t hb.1 hb.2]
    try decide
  · have n1 : ¬ a = b := by omega
    have n2 : ¬ a < b := by omega
    simp [e1, e2, e3, c, n1, n2, Int64.lt_iff_toInt_lt, zL_t ha.1 ha.2, zL_t hb.1 hb.2]
    try decide
theorem lg_r (a b : Int) : zr (if a < b then -1 else if a = b then 0 else 1) := by
  split
  · exact ⟨by decide, by decide⟩
  · split <;> exact ⟨by decide, by decide⟩
theorem zl_lt {a b : Int} (ha : lr a) (hb : lr b) : ix_cc .lt (lg_cmp (zL a) (zL b)) 0 = decide (a < b) := by
  rw [lg_z ha hb, zz_lt (lg_r a b)]
  by_cases c : a < b
  · simp [c]
  · by_cases d : a = b
    · simp [d]
    · simp [c, d]
theorem zl_gt {a b : Int} (ha : lr a) (hb : lr b) : ix_cc .gt (lg_cmp (zL a) (zL b)) 0 = decide (b < a) := by
  rw [lg_z ha hb, zz_gt (lg_r a b)]
  by_cases c : a < b
  · simp [c] <;> omega
  · by_cases d : a = b
    · simp [d]
    · simp [c, d] <;> omega
theorem zl_le {a b : Int} (ha : lr a) (hb : lr b) : ix_cc .le (lg_cmp (zL a) (zL b)) 0 = decide (a ≤ b) := by
  rw [lg_z ha hb, zz_le (lg_r a b)]
  by_cases c : a < b
  · simp [c] <;> omega
  · by_cases d : a = b
    · simp [d]
    · simp [c, d] <;> omega
theorem zl_ge {a b : Int} (ha : lr a) (hb : lr b) : ix_cc .ge (lg_cmp (zL a) (zL b)) 0 = decide (b ≤ a) := by
  rw [lg_z ha hb, zz_ge (lg_r a b)]
  by_cases c : a < b
  · simp [c] <;> omega
  · by_cases d : a = b
    · simp [d]
    · simp [c, d] <;> omega
theorem zl_eq {a b : Int} (ha : lr a) (hb : lr b) : ix_cc .eq (lg_cmp (zL a) (zL b)) 0 = decide (a = b) := by
  rw [lg_z ha hb, zz_eq (lg_r a b)]
  by_cases c : a < b
  · simp [c] <;> omega
  · by_cases d : a = b
    · simp [d]
    · simp [c, d]
theorem zl_ne {a b : Int} (ha : lr a) (hb : lr b) : ix_cc .ne (lg_cmp (zL a) (zL b)) 0 = decide (¬ a = b) := by
  rw [lg_z ha hb, zz_ne (lg_r a b)]
  by_cases c : a < b
  · simp [c] <;> omega
  · by_cases d : a = b
    · simp [d]
    · simp [c, d]
section IXW
variable {mi pc pc' mj k : Nat} {i : Instr} {L L' : ix_L} {st st' rest as : List Value} {h h' : ix_H} {Q : ix_O → ix_H → Prop} {S : Nat → AC}
/-- a boolean is returned -/
theorem jrb {b : Bool} (hi : ix_ins mi pc = some .ireturn) (hr : ix_rt mi = some .boolean) (q : Q (.inl (some (.int (bI b)))) h) : ix_E mi pc L [.int (bI b)] h Q := by
  refine ix_qr .ireturn hi rfl (v := some (.int (bI b))) ?_ q
  rw [hr]
  cases b <;> rfl
theorem nb (b : Bool) : narrow .boolean (.int (bI b)) = .int (bI b) := by cases b <;> rfl
theorem fb (b : Bool) : fits .boolean (.int (bI b)) = true := by cases b <;> rfl
theorem va_up_up {α : Type} (S : Nat → α) (r : Nat) (a b : α) : va_up (va_up S r a) r b = va_up S r b := by
  funext j
  by_cases e : j = r <;> simp [va_up, e]
theorem va_up_id {α : Type} {S : Nat → α} {r : Nat} {a : α} (e : S r = a) : va_up S r a = S := by
  funext j
  by_cases z : j = r <;> simp [va_up, z, e]
/-- a field is written, over an abstract heap -/
theorem jpA {r ci k idx : Nat} {fs : List Value} {v : Value} (I : Inv h S) (e : S r = aC (cO ci fs)) (hi : ix_ins mi pc = some (.putfield idx)) (ht : ix_thr mi pc = none) (hf : ix_fld (ix_o mi) idx = some (ci, k)) (hk : k < fs.length) (hfin : ix_fin ci k = true → ix_ini mi = true ∧ ix_o mi = ix_oc ci) (hn : narrow (ix_fty ci k) v = v) (hs : fits (ix_fty ci k) v = true) (hp : pc + 3 = pc') (q : ∀ h', Inv h' (va_up S r (aC (cO ci (fs.set k v)))) → va_up S r (aC (cO ci (fs.set k v))) r = aC (cO ci (fs.set k v)) → ix_E mi pc' L st h' Q) : ix_E mi pc L (v :: .ref r :: st) h Q :=
  jpf (I.ob e) hi ht hf hk hfin hn hs hp (q _ (I.pc e (I.cl e).2.2.2) (va_up_self _ _ _))
end IXW
section JDK
variable {h : ix_H} {Q : ix_O → ix_H → Prop} {x y : Int}
/-- Math.max, min of longs -/
theorem c_maxL (hx : lr x) (hy : lr y) (q : Q (.inl (some (.long (zL (max x y))))) h) : ix_M 275 [.long (zL x), .long (zL y)] h Q := by
  refine jx (pc' := 3) (L' := [_, _, _, _]) (st' := [_]) 3 rfl ?_
  try simp (disch := omega) only [nI_add, nI_mul, nI_sub, nI_l, lN_i, lN_add, lN_mul, lN_sub, Nat.zero_mul, Nat.one_mul, Nat.sub_zero, Nat.add_zero, Nat.zero_add, Nat.add_sub_cancel]
  by_cases hc : x < y
  · skip
    refine jit (pc' := 10) rfl rfl rfl (by rw [zl_lt hx hy]; exact decide_eq_true hc) ?_
    refine jx (pc' := 11) (L' := [_, _, _, _]) (st' := [_]) 1 rfl ?_
    refine ix_qr _ rfl rfl rfl ?_
    rwa [Int.max_eq_right (by omega)] at q
  · skip
    refine jin (pc' := 6) 10 rfl rfl rfl rfl (by rw [zl_lt hx hy]; exact decide_eq_false hc) ?_
    refine jx (pc' := 11) (L' := [_, _, _, _]) (st' := [_]) 2 rfl ?_
    refine ix_qr _ rfl rfl rfl ?_
    rwa [Int.max_eq_left (by omega)] at q
theorem c_minL (hx : lr x) (hy : lr y) (q : Q (.inl (some (.long (zL (min x y))))) h) : ix_M 272 [.long (zL x), .long (zL y)] h Q := by
  refine jx (pc' := 3) (L' := [_, _, _, _]) (st' := [_]) 3 rfl ?_
  try simp (disch := omega) only [nI_add, nI_mul, nI_sub, nI_l, lN_i, lN_add, lN_mul, lN_sub, Nat.zero_mul, Nat.one_mul, Nat.sub_zero, Nat.add_zero, Nat.zero_add, Nat.add_sub_cancel]
  by_cases hc : y < x
  · skip
    refine jit (pc' := 10) rfl rfl rfl (by rw [zl_gt hx hy]; exact decide_eq_true hc) ?_
    refine jx (pc' := 11) (L' := [_, _, _, _]) (st' := [_]) 1 rfl ?_
    refine ix_qr _ rfl rfl rfl ?_
    rwa [Int.min_eq_right (by omega)] at q
  · skip
    refine jin (pc' := 6) 10 rfl rfl rfl rfl (by rw [zl_gt hx hy]; exact decide_eq_false hc) ?_
    refine jx (pc' := 11) (L' := [_, _, _, _]) (st' := [_]) 2 rfl ?_
    refine ix_qr _ rfl rfl rfl ?_
    rwa [Int.min_eq_left (by omega)] at q
/-- Rounding.nearest -/
theorem c_nearest {w : Int} (hw : lr w) (hx : lr x) (hy : lr y) (q : Q (.inl (some (.long (zL (max x (min w y)))))) h) : ix_M 106 [.long (zL w), .long (zL x), .long (zL y)] h Q := by
  have hm : lr (min w y) := by
    rw [Int.min_def]
    split
    · exact hw
    · exact hy
  refine jx (pc' := 4) (L' := [_, _, _, _, _, _]) (st' := [_, _, _]) 3 rfl ?_
  refine jcs (pc' := 7) 272 [_, _] [_] rfl rfl rfl rfl rfl rfl rfl rfl ?_
  refine c_minL hw hy (jk ?_)
  refine jcs (pc' := 10) 275 [_, _] [] rfl rfl rfl rfl rfl rfl rfl rfl ?_
  refine c_maxL hx hm (jk ?_)
  refine ix_qr _ rfl rfl rfl ?_
  exact q
end JDK
