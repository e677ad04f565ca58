/-! ===== Datum: isTiny ===== -/
section DAT
variable {h : ix_H} {Q : ix_O → ix_H → Prop} {r c d fm so ng : Nat} {ex : Int} {f : Nat → Nat}
theorem fE_le {k : Nat} (h : k < 3) : fE k ≤ 6144 := by rcases f3 h with rfl | rfl | rfl <;> decide
/-- Datum.isTiny -/
theorem c_isTiny (D : dt h r c d fm so ng ex f) (T : ix_tab h) (hex : -1000000 ≤ ex ∧ ex ≤ 1000000) (q : ∀ n : Nat, n ≤ 144 → (vl f 16 = 0 → n = 0) → (0 < vl f 16 → 1 ≤ n ∧ 10 ^ (n - 1) ≤ vl f 16) → vl f 16 < 10 ^ n → (ex + n ≤ 1 - fE fm → Q (.inl (some (.int 1))) h) ∧ (1 - (fE fm : Int) < ex + n → Q (.inl (some (.int 0))) h)) : ix_M 81 [.ref r] h Q := by
  obtain ⟨O, N, b1, b2, b3, b4⟩ := D
  have hE := fE_le b1
  refine jx (pc' := 1) (L' := [_]) (st' := [_]) 1 rfl ?_
  refine jgf (pc' := 4) O rfl rfl rfl rfl rfl ?_
  refine jx (pc' := 5) (L' := [_]) (st' := [_, _]) 1 rfl ?_
  refine jgf (pc' := 8) O rfl rfl rfl rfl rfl ?_
  refine jcv (pc' := 11) 52 [] [_] N.1 rfl rfl rfl rfl rfl rfl rfl rfl ?_
  refine c_digits N T fun n hn h0 h1 h2 => jk ?_
  obtain ⟨qa, qb⟩ := q n hn h0 h1 h2
  refine jx (pc' := 17) (L' := [_]) (st' := [_, _, .int (nI 1), _]) 4 rfl ?_
  try simp (disch := omega) only [ki1, nI_add, nI_mul, nI_sub, Nat.zero_mul, Nat.one_mul, Nat.sub_zero, Nat.add_zero, Nat.zero_add, Nat.add_sub_cancel]
  rw [zI_n (n := n) (by omega), zI_add]
  refine jgf (pc' := 20) O rfl rfl rfl rfl rfl ?_
  refine jat (pc' := 21) T rfl rfl ⟨by decide, b1⟩ rfl ?_
  rw [tv3 b1]
  refine jx (pc' := 22) (L' := [_]) (st' := [_, _]) 1 rfl ?_
  try simp (disch := omega) only [nI_add, nI_mul, nI_sub, Nat.zero_mul, Nat.one_mul, Nat.sub_zero, Nat.add_zero, Nat.zero_add, Nat.add_sub_cancel]
  rw [show nI 1 = zI 1 from zI_n (by decide), zI_sub]
  have r1 : zr (ex + n) := ⟨by omega, by omega⟩
  have r2 : zr (1 - (fE fm : Int)) := ⟨by omega, by omega⟩
  by_cases hc : 1 - (fE fm : Int) < ex + n
  · skip
    refine jct (pc' := 29) rfl rfl rfl (by rw [zc_gt r1 r2]; exact decide_eq_true hc) ?_
    refine jx (pc' := 30) (L' := [_]) (st' := [.int (nI 0)]) 1 rfl ?_
    refine ix_qr _ rfl rfl rfl ?_
    exact qb hc
  · skip
    refine jcn (pc' := 25) 29 rfl rfl rfl rfl (by rw [zc_gt r1 r2]; exact decide_eq_false hc) ?_
    refine jx (pc' := 30) (L' := [_]) (st' := [.int (nI 1)]) 2 rfl ?_
    refine ix_qr _ rfl rfl rfl ?_
    exact qa (by omega)
end DAT
