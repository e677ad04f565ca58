/-! ===== Datum: what it is ===== -/
/-- a Datum at the cell r: format, sort (0 finite, 1 infinite, 2 and 3 NaNs), sign, exponent, coefficient -/
def dt (h : ix_H) (r c d fm so ng : Nat) (ex : Int) (f : Nat → Nat) : Prop := ix_ob h r 3 [.int (nI fm), .int (nI so), .int (nI ng), .int (zI ex), .ref c] ∧ nt h c d f ∧ fm < 3 ∧ so < 4 ∧ ng < 2 ∧ zr ex
section DAT
variable {h : ix_H} {Q : ix_O → ix_H → Prop} {r c d fm so ng : Nat} {ex : Int} {f : Nat → Nat}
theorem c_isInfinite (D : dt h r c d fm so ng ex f) (q1 : so = 1 → Q (.inl (some (.int 1))) h) (q0 : so ≠ 1 → Q (.inl (some (.int 0))) h) : ix_M 78 [.ref r] h Q := by
  obtain ⟨O, N, b1, b2, b3, b4⟩ := D
  refine jx (pc' := 1) (L' := [_]) (st' := [_]) 1 rfl ?_
  refine jgf (pc' := 4) O rfl rfl rfl rfl rfl ?_
  refine jx (pc' := 5) (L' := [_]) (st' := [.int (nI 1), _]) 1 rfl ?_
  by_cases hc : so = 1
  · skip
    refine jcn (pc' := 8) 12 rfl rfl rfl rfl (by rw [cc_ne (by omega) (by omega)]; exact decide_eq_false (by omega)) ?_
    refine jx (pc' := 13) (L' := [_]) (st' := [.int (nI 1)]) 2 rfl ?_
    refine ix_qr _ rfl rfl rfl ?_
    exact q1 hc
  · skip
    refine jct (pc' := 12) rfl rfl rfl (by rw [cc_ne (by omega) (by omega)]; exact decide_eq_true (by omega)) ?_
    refine jx (pc' := 13) (L' := [_]) (st' := [.int (nI 0)]) 1 rfl ?_
    refine ix_qr _ rfl rfl rfl ?_
    exact q0 hc
theorem c_isFinite (D : dt h r c d fm so ng ex f) (q1 : so = 0 → Q (.inl (some (.int 1))) h) (q0 : so ≠ 0 → Q (.inl (some (.int 0))) h) : ix_M 82 [.ref r] h Q := by
  obtain ⟨O, N, b1, b2, b3, b4⟩ := D
  refine jx (pc' := 1) (L' := [_]) (st' := [_]) 1 rfl ?_
  refine jgf (pc' := 4) O rfl rfl rfl rfl rfl ?_
  by_cases hc : so = 0
  · skip
    refine jin (pc' := 7) 11 rfl rfl rfl rfl (by rw [cz_ne (by omega)]; exact decide_eq_false (by omega)) ?_
    refine jx (pc' := 12) (L' := [_]) (st' := [.int (nI 1)]) 2 rfl ?_
    refine ix_qr _ rfl rfl rfl ?_
    exact q1 hc
  · skip
    refine jit (pc' := 11) rfl rfl rfl (by rw [cz_ne (by omega)]; exact decide_eq_true (by omega)) ?_
    refine jx (pc' := 12) (L' := [_]) (st' := [.int (nI 0)]) 1 rfl ?_
    refine ix_qr _ rfl rfl rfl ?_
    exact q0 hc
theorem c_isNaN (D : dt h r c d fm so ng ex f) (q1 : 2 ≤ so → Q (.inl (some (.int 1))) h) (q0 : so < 2 → Q (.inl (some (.int 0))) h) : ix_M 79 [.ref r] h Q := by
  obtain ⟨O, N, b1, b2, b3, b4⟩ := D
  refine jx (pc' := 1) (L' := [_]) (st' := [_]) 1 rfl ?_
  refine jgf (pc' := 4) O rfl rfl rfl rfl rfl ?_
  refine jx (pc' := 5) (L' := [_]) (st' := [.int (nI 2), _]) 1 rfl ?_
  by_cases hc : so = 2
  · skip
    refine jct (pc' := 16) rfl rfl rfl (by rw [cc_eq (by omega) (by omega)]; exact decide_eq_true (by omega)) ?_
    refine jx (pc' := 21) (L' := [_]) (st' := [.int (nI 1)]) 2 rfl ?_
    refine ix_qr _ rfl rfl rfl ?_
    exact q1 (by omega)
  · skip
    refine jcn (pc' := 8) 16 rfl rfl rfl rfl (by rw [cc_eq (by omega) (by omega)]; exact decide_eq_false (by omega)) ?_
    refine jx (pc' := 9) (L' := [_]) (st' := [_]) 1 rfl ?_
    refine jgf (pc' := 12) O rfl rfl rfl rfl rfl ?_
    refine jx (pc' := 13) (L' := [_]) (st' := [.int (nI 3), _]) 1 rfl ?_
    by_cases hd : so = 3
    · skip
      refine jcn (pc' := 16) 20 rfl rfl rfl rfl (by rw [cc_ne (by omega) (by omega)]; exact decide_eq_false (by omega)) ?_
      refine jx (pc' := 21) (L' := [_]) (st' := [.int (nI 1)]) 2 rfl ?_
      refine ix_qr _ rfl rfl rfl ?_
      exact q1 (by omega)
    · skip
      refine jct (pc' := 20) rfl rfl rfl (by rw [cc_ne (by omega) (by omega)]; exact decide_eq_true (by omega)) ?_
      refine jx (pc' := 21) (L' := [_]) (st' := [.int (nI 0)]) 1 rfl ?_
      refine ix_qr _ rfl rfl rfl ?_
      exact q0 (by omega)
theorem c_isZero (D : dt h r c d fm so ng ex f) (q1 : so = 0 → vl f 16 = 0 → Q (.inl (some (.int 1))) h) (q0 : ¬ (so = 0 ∧ vl f 16 = 0) → Q (.inl (some (.int 0))) h) : ix_M 80 [.ref r] h Q := by
  obtain ⟨O, N, b1, b2, b3, b4⟩ := D
  refine jx (pc' := 1) (L' := [_]) (st' := [_]) 1 rfl ?_
  refine jgf (pc' := 4) O rfl rfl rfl rfl rfl ?_
  by_cases hc : so = 0
  · skip
    refine jin (pc' := 7) 21 rfl rfl rfl rfl (by rw [cz_ne (by omega)]; exact decide_eq_false (by omega)) ?_
    refine jx (pc' := 8) (L' := [_]) (st' := [_]) 1 rfl ?_
    refine jgf (pc' := 11) O rfl rfl rfl rfl rfl ?_
    refine jcv (pc' := 14) 51 [] [] N.1 rfl rfl rfl rfl rfl rfl rfl rfl ?_
    refine c_used N fun u hu hz hn => jk ?_
    by_cases h0 : u = 0
    · skip
      refine jin (pc' := 17) 21 rfl rfl rfl rfl (by rw [cz_ne (by omega)]; exact decide_eq_false (by omega)) ?_
      refine jx (pc' := 22) (L' := [_]) (st' := [.int (nI 1)]) 2 rfl ?_
      refine ix_qr _ rfl rfl rfl ?_
      exact q1 hc (vl_0 fun j hj => hz j (by omega) hj)
    · skip
      refine jit (pc' := 21) rfl rfl rfl (by rw [cz_ne (by omega)]; exact decide_eq_true (by omega)) ?_
      refine jx (pc' := 22) (L' := [_]) (st' := [.int (nI 0)]) 1 rfl ?_
      refine ix_qr _ rfl rfl rfl ?_
      refine q0 fun z => ?_
      have h1 := hn (by omega)
      have h2 := vl_at (f := f) (n := 16) (k := u - 1) (by omega) N.2.2
      rw [z.2, Nat.zero_div, Nat.zero_mod] at h2
      exact h1 h2.symm
  · skip
    refine jit (pc' := 21) rfl rfl rfl (by rw [cz_ne (by omega)]; exact decide_eq_true (by omega)) ?_
    refine jx (pc' := 22) (L' := [_]) (st' := [.int (nI 0)]) 1 rfl ?_
    refine ix_qr _ rfl rfl rfl ?_
    exact q0 fun z => hc z.1
end DAT
