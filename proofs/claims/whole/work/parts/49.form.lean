/-! ===== Formats ===== -/
section IXW
variable {mi pc pc' mj k : Nat} {i : Instr} {L L' : ix_L} {st st' rest as : List Value} {h h' : ix_H} {Q : ix_O → ix_H → Prop}
theorem jlt {r : Nat} (T : ix_tab h) (hr : r < 7) (hi : ix_ins mi pc = some .arraylength) (ht : ix_thr mi pc = none) (hp : pc + 1 = pc') (q : ix_E mi pc' L (.int (nI (ix_tv r).length) :: st) h Q) : ix_E mi pc L (.ref r :: st) h Q := by
  refine jx1 (pc' := pc') (L' := L) (st' := .int (nI (ix_tv r).length) :: st) (h' := h) ?_ q
  rw [ix_s1_of hi rfl rfl ht]
  simp only [ix_x1, ix_len, T.2.1 r hr, hp]
  rw [if_pos ⟨Or.inl (by decide), Nat.lt_of_lt_of_le (Nat.lt_trans hr (by decide)) T.1⟩]
  rfl
end IXW
/-- digits, bias, greatest exponent of a format -/
def fD (k : Nat) : Nat := [7, 16, 34].getD k 0
def fB (k : Nat) : Nat := [101, 398, 6176].getD k 0
def fE (k : Nat) : Nat := [96, 384, 6144].getD k 0
theorem f3 {k : Nat} (h : k < 3) : k = 0 ∨ k = 1 ∨ k = 2 := by omega
theorem tv1 {k : Nat} (h : k < 3) : (ix_tv 1).getD k 0 = zI (fD k) := by rcases f3 h with rfl | rfl | rfl <;> decide
theorem tv2 {k : Nat} (h : k < 3) : (ix_tv 2).getD k 0 = zI (fB k) := by rcases f3 h with rfl | rfl | rfl <;> decide
theorem tv3 {k : Nat} (h : k < 3) : (ix_tv 3).getD k 0 = zI (fE k) := by rcases f3 h with rfl | rfl | rfl <;> decide
section FORM
variable {h : ix_H} {Q : ix_O → ix_H → Prop} {x : Int} {k : Nat}
/-- Formats.leastExponent -/
theorem c_leastExponent (T : ix_tab h) (hk : k < 3) (q : Q (.inl (some (.int (zI (-(fB k : Int)))))) h) : ix_M 45 [.int (nI k)] h Q := by
  refine jx (pc' := 4) (L' := [_]) (st' := [_, _]) 2 rfl ?_
  refine jat (pc' := 5) T rfl rfl ⟨by decide, hk⟩ rfl ?_
  rw [tv2 hk]
  refine jx (pc' := 6) (L' := [_]) (st' := [_]) 1 rfl ?_
  try simp (disch := omega) only [nI_add, nI_mul, nI_sub, Nat.zero_mul, Nat.one_mul, Nat.sub_zero, Nat.add_zero, Nat.zero_add, Nat.add_sub_cancel]
  rw [zI_neg]
  refine jri rfl rfl ?_
  exact q
/-- Formats.greatestExponent -/
theorem c_greatestExponent (T : ix_tab h) (hk : k < 3) (q : Q (.inl (some (.int (zI ((fE k : Int) - fD k + 1))))) h) : ix_M 46 [.int (nI k)] h Q := by
  refine jx (pc' := 4) (L' := [_]) (st' := [_, _]) 2 rfl ?_
  refine jat (pc' := 5) T rfl rfl ⟨by decide, hk⟩ rfl ?_
  rw [tv3 hk]
  refine jx (pc' := 9) (L' := [_]) (st' := [_, _, _]) 2 rfl ?_
  refine jat (pc' := 10) T rfl rfl ⟨by decide, hk⟩ rfl ?_
  rw [tv1 hk]
  refine jx (pc' := 13) (L' := [_]) (st' := [_]) 3 rfl ?_
  try simp (disch := omega) only [ki1, nI_add, nI_mul, nI_sub, Nat.zero_mul, Nat.one_mul, Nat.sub_zero, Nat.add_zero, Nat.zero_add, Nat.add_sub_cancel]
  rw [zI_sub, show nI 1 = zI 1 from zI_n (by decide), zI_add]
  refine jri rfl rfl ?_
  exact q
/-- Formats.exists -/
theorem c_exists (T : ix_tab h) (hx : zr x) (q1 : 0 ≤ x ∧ x < 3 → Q (.inl (some (.int 1))) h) (q0 : ¬ (0 ≤ x ∧ x < 3) → Q (.inl (some (.int 0))) h) : ix_M 44 [.int (zI x)] h Q := by
  have z0 : zr 0 := ⟨by decide, by decide⟩
  have z3 : zr 3 := ⟨by decide, by decide⟩
  refine jx (pc' := 1) (L' := [_]) (st' := [_]) 1 rfl ?_
  by_cases h0 : x < 0
  · skip
    refine jit (pc' := 16) rfl rfl rfl (by rw [show (0 : Int32) = zI 0 from by decide, zc_lt hx z0]; exact decide_eq_true h0) ?_
    refine jx (pc' := 17) (L' := [_]) (st' := [.int (nI 0)]) 1 rfl ?_
    refine ix_qr _ rfl rfl rfl ?_
    exact q0 (by omega)
  · skip
    refine jin (pc' := 4) 16 rfl rfl rfl rfl (by rw [show (0 : Int32) = zI 0 from by decide, zc_lt hx z0]; exact decide_eq_false h0) ?_
    refine jx (pc' := 8) (L' := [_]) (st' := [_, _]) 2 rfl ?_
    refine jlt (pc' := 9) T (by decide) rfl rfl rfl ?_
    by_cases h3 : 3 ≤ x
    · skip
      refine jct (pc' := 16) rfl rfl rfl (by rw [show nI (ix_tv 1).length = zI 3 from by decide, zc_ge hx z3]; exact decide_eq_true h3) ?_
      refine jx (pc' := 17) (L' := [_]) (st' := [.int (nI 0)]) 1 rfl ?_
      refine ix_qr _ rfl rfl rfl ?_
      exact q0 (by omega)
    · skip
      refine jcn (pc' := 12) 16 rfl rfl rfl rfl (by rw [show nI (ix_tv 1).length = zI 3 from by decide, zc_ge hx z3]; exact decide_eq_false h3) ?_
      refine jx (pc' := 17) (L' := [_]) (st' := [.int (nI 1)]) 2 rfl ?_
      refine ix_qr _ rfl rfl rfl ?_
      exact q1 (by omega)
end FORM
