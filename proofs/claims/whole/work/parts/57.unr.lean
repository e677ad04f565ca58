/-! ===== Unrounded: lowerExponent, dropZeros ===== -/
section UNR
variable {h : ix_H} {Q : ix_O → ix_H → Prop} {r c d ng mo p : Nat} {ex wi : Int64} {f : Nat → Nat}
/-- Unrounded.lowerExponent -/
theorem c_lowerExponent (U : un h r c d ng mo ex wi f) (T : ix_tab h) (hp : p < 2 ^ 31) (hs : vl f 16 * 10 ^ p < 1000000000 ^ 16) (q : ∀ f' : Nat → Nat, (∀ j, j < 16 → f' j < 1000000000) → vl f' 16 = vl f 16 * 10 ^ p → Q (.inl none) (ix_up (ix_up h d (cN f')) r (cO 5 [.int (nI ng), .ref c, .long (ex - lN p), .long wi, .int (nI mo)]))) : ix_M 99 [.ref r, .int (nI p)] h Q := by
  obtain ⟨O, N, b1, b2⟩ := U
  have hrd : r ≠ d := O.ne N.2.1
  refine jx (pc' := 1) (L' := [_, _]) (st' := [_]) 1 rfl ?_
  refine jgf (pc' := 4) O rfl rfl rfl rfl rfl ?_
  refine jx (pc' := 5) (L' := [_, _]) (st' := [_, _]) 1 rfl ?_
  refine jcv (pc' := 8) 56 [_] [] N.1 rfl rfl rfl rfl rfl rfl rfl rfl ?_
  refine c_shiftUp N T hp hs fun f' l hv => jk ?_
  have O2 : ix_ob (ix_up h d (cN f')) r 5 [.int (nI ng), .ref c, .long ex, .long wi, .int (nI mo)] := O.up hrd
  refine jx (pc' := 10) (L' := [_, _]) (st' := [_, _]) 2 rfl ?_
  refine jgf (pc' := 13) O2 rfl rfl rfl rfl rfl ?_
  refine jx (pc' := 16) (L' := [_, _]) (st' := [_, _]) 3 rfl ?_
  try simp (disch := omega) only [nI_add, nI_mul, nI_sub, nI_l, lN_i, lN_add, lN_mul, lN_sub, Nat.zero_mul, Nat.one_mul, Nat.sub_zero, Nat.add_zero, Nat.zero_add, Nat.add_sub_cancel]
  refine jpf (pc' := 19) O2 rfl rfl rfl (Nat.le_of_ble_eq_true rfl) (by intro z; cases z) rfl rfl rfl ?_
  refine ix_qr _ rfl rfl rfl ?_
  exact q f' l hv
/-- Unrounded.dropZeros -/
theorem c_dropZeros (U : un h r c d ng mo ex wi f) (T : ix_tab h) (q : ∀ (z : Nat) (f' : Nat → Nat), z ≤ 144 → (vl f 16 = 0 → z = 0) → 10 ^ z ∣ vl f 16 → (0 < vl f 16 → ¬ 10 ^ (z + 1) ∣ vl f 16) → (∀ j, j < 16 → f' j < 1000000000) → vl f' 16 = vl f 16 / 10 ^ z → Q (.inl none) (ix_up (ix_up h d (cN f')) r (cO 5 [.int (nI ng), .ref c, .long (ex + lN z), .long wi, .int (nI mo)]))) : ix_M 100 [.ref r] h Q := by
  obtain ⟨O, N, b1, b2⟩ := U
  have hrd : r ≠ d := O.ne N.2.1
  refine jx (pc' := 1) (L' := [_, _]) (st' := [_]) 1 rfl ?_
  refine jgf (pc' := 4) O rfl rfl rfl rfl rfl ?_
  refine jcv (pc' := 7) 67 [] [] N.1 rfl rfl rfl rfl rfl rfl rfl rfl ?_
  refine c_zerosAtEnd N T fun z hz h0 h1 h2 => jk ?_
  refine jx (pc' := 9) (L' := [_, _]) (st' := [_]) 2 rfl ?_
  refine jgf (pc' := 12) O rfl rfl rfl rfl rfl ?_
  refine jx (pc' := 13) (L' := [_, _]) (st' := [_, _]) 1 rfl ?_
  refine jcv (pc' := 16) 64 [_] [] N.1 rfl rfl rfl rfl rfl rfl rfl rfl ?_
  refine c_shiftDown N T (by omega) fun f' l hv => jk ?_
  have O2 : ix_ob (ix_up h d (cN f')) r 5 [.int (nI ng), .ref c, .long ex, .long wi, .int (nI mo)] := O.up hrd
  refine jx (pc' := 18) (L' := [_, _]) (st' := [_, _]) 2 rfl ?_
  refine jgf (pc' := 21) O2 rfl rfl rfl rfl rfl ?_
  refine jx (pc' := 24) (L' := [_, _]) (st' := [_, _]) 3 rfl ?_
  try simp (disch := omega) only [nI_add, nI_mul, nI_sub, nI_l, lN_i, lN_add, lN_mul, lN_sub, Nat.zero_mul, Nat.one_mul, Nat.sub_zero, Nat.add_zero, Nat.zero_add, Nat.add_sub_cancel]
  refine jpf (pc' := 27) O2 rfl rfl rfl (Nat.le_of_ble_eq_true rfl) (by intro z; cases z) rfl rfl rfl ?_
  refine ix_qr _ rfl rfl rfl ?_
  exact q z f' hz h0 h1 h2 l hv
end UNR
