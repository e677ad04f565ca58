/-! ===== whole numbers with a sign; Math's small methods ===== -/
def zI (z : Int) : Int32 := Int32.ofInt z
def zr (z : Int) : Prop := -2147483648 ≤ z ∧ z < 2147483648
theorem zI_t {z : Int} (h : zr z) : (zI z).toInt = z := by
  obtain ⟨h1, h2⟩ := h
  unfold zI
  rw [Int32.toInt_ofInt, show Int32.size = 4294967296 from rfl]
  simp only [Int.bmod]
  split <;> omega
theorem zI_add (a b : Int) : zI a + zI b = zI (a + b) := (Int32.ofInt_add a b).symm
theorem zI_sub (a b : Int) : zI a - zI b = zI (a - b) := (Int32.ofInt_sub a b).symm
theorem zI_neg (a : Int) : -(zI a) = zI (-a) := (Int32.ofInt_neg a).symm
theorem zI_n {n : Nat} (h : n < 2 ^ 31) : nI n = zI (n : Int) := Int32.toInt_inj.mp (by rw [nI_toInt h, zI_t ⟨by omega, by omega⟩])
theorem zc_lt {a b : Int} (ha : zr a) (hb : zr b) : ix_cc .lt (zI a) (zI b) = decide (a < b) := by simp only [ix_cc, Int32.lt_iff_toInt_lt, zI_t ha, zI_t hb]
theorem zc_ge {a b : Int} (ha : zr a) (hb : zr b) : ix_cc .ge (zI a) (zI b) = decide (b ≤ a) := by simp only [ix_cc, Int32.le_iff_toInt_le, zI_t ha, zI_t hb]
theorem zc_gt {a b : Int} (ha : zr a) (hb : zr b) : ix_cc .gt (zI a) (zI b) = decide (b < a) := by simp only [ix_cc, Int32.lt_iff_toInt_lt, zI_t ha, zI_t hb]
theorem zc_le {a b : Int} (ha : zr a) (hb : zr b) : ix_cc .le (zI a) (zI b) = decide (a ≤ b) := by simp only [ix_cc, Int32.le_iff_toInt_le, zI_t ha, zI_t hb]
theorem zc_eq {a b : Int} (ha : zr a) (hb : zr b) : ix_cc .eq (zI a) (zI b) = decide (a = b) := by simp only [ix_cc, ← Int32.toInt_inj, zI_t ha, zI_t hb]
theorem zc_ne {a b : Int} (ha : zr a) (hb : zr b) : ix_cc .ne (zI a) (zI b) = decide (¬ a = b) := by simp only [ix_cc, ← Int32.toInt_inj, zI_t ha, zI_t hb]
section JDK
variable {h : ix_H} {Q : ix_O → ix_H → Prop} {x y : Int}
/-- Math.max, min of ints -/
theorem c_maxI (hx : zr x) (hy : zr y) (q : Q (.inl (some (.int (zI (max x y))))) h) : ix_M 273 [.int (zI x), .int (zI y)] h Q := by
  refine jx (pc' := 2) (L' := [_, _]) (st' := [_, _]) 2 rfl ?_
  by_cases hc : x < y
  · skip
    refine jct (pc' := 9) rfl rfl rfl (by rw [zc_lt hx hy]; exact decide_eq_true hc) ?_
    refine jx (pc' := 10) (L' := [_, _]) (st' := [_]) 1 rfl ?_
    refine jri rfl rfl ?_
    rwa [Int.max_eq_right (by omega)] at q
  · skip
    refine jcn (pc' := 5) 9 rfl rfl rfl rfl (by rw [zc_lt hx hy]; exact decide_eq_false hc) ?_
    refine jx (pc' := 10) (L' := [_, _]) (st' := [_]) 2 rfl ?_
    refine jri rfl rfl ?_
    rwa [Int.max_eq_left (by omega)] at q
theorem c_minI (hx : zr x) (hy : zr y) (q : Q (.inl (some (.int (zI (min x y))))) h) : ix_M 274 [.int (zI x), .int (zI y)] h Q := by
  refine jx (pc' := 2) (L' := [_, _]) (st' := [_, _]) 2 rfl ?_
  by_cases hc : y < x
  · skip
    refine jct (pc' := 9) rfl rfl rfl (by rw [zc_gt hx hy]; exact decide_eq_true hc) ?_
    refine jx (pc' := 10) (L' := [_, _]) (st' := [_]) 1 rfl ?_
    refine jri rfl rfl ?_
    rwa [Int.min_eq_right (by omega)] at q
  · skip
    refine jcn (pc' := 5) 9 rfl rfl rfl rfl (by rw [zc_gt hx hy]; exact decide_eq_false hc) ?_
    refine jx (pc' := 10) (L' := [_, _]) (st' := [_]) 2 rfl ?_
    refine jri rfl rfl ?_
    rwa [Int.min_eq_left (by omega)] at q
/-- Integer.compare -/
theorem c_cmpI (hx : zr x) (hy : zr y) (q1 : x < y → Q (.inl (some (.int (-1)))) h) (q2 : x = y → Q (.inl (some (.int 0))) h) (q3 : y < x → Q (.inl (some (.int 1))) h) : ix_M 271 [.int (zI x), .int (zI y)] h Q := by
  refine jx (pc' := 2) (L' := [_, _]) (st' := [_, _]) 2 rfl ?_
  by_cases hc : y ≤ x
  · skip
    refine jct (pc' := 9) rfl rfl rfl (by rw [zc_ge hx hy]; exact decide_eq_true hc) ?_
    refine jx (pc' := 11) (L' := [_, _]) (st' := [_, _]) 2 rfl ?_
    by_cases he : x = y
    · skip
      refine jcn (pc' := 14) 18 rfl rfl rfl rfl (by rw [zc_ne hx hy]; exact decide_eq_false (fun z => z he)) ?_
      refine jx (pc' := 19) (L' := [_, _]) (st' := [.int (nI 0)]) 2 rfl ?_
      refine jri rfl rfl ?_
      exact q2 he
    · skip
      refine jct (pc' := 18) rfl rfl rfl (by rw [zc_ne hx hy]; exact decide_eq_true he) ?_
      refine jx (pc' := 19) (L' := [_, _]) (st' := [.int (nI 1)]) 1 rfl ?_
      refine jri rfl rfl ?_
      exact q3 (by omega)
  · skip
    refine jcn (pc' := 5) 9 rfl rfl rfl rfl (by rw [zc_ge hx hy]; exact decide_eq_false hc) ?_
    refine jx (pc' := 19) (L' := [_, _]) (st' := [_]) 2 rfl ?_
    refine jri rfl rfl ?_
    exact q1 (by omega)
end JDK
