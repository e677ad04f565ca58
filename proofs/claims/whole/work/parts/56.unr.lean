/-! ===== Unrounded ===== -/
/-- an Unrounded at the cell r: sign, exponent, wish (longs as they are), more -/
def un (h : ix_H) (r c d ng mo : Nat) (ex wi : Int64) (f : Nat → Nat) : Prop := ix_ob h r 5 [.int (nI ng), .ref c, .long ex, .long wi, .int (nI mo)] ∧ nt h c d f ∧ ng < 2 ∧ mo < 2
section UNR
variable {h : ix_H} {Q : ix_O → ix_H → Prop} {r c d ng mo n : Nat} {ex wi : Int64} {f : Nat → Nat}
/-- Unrounded.setZero -/
theorem c_setZero (U : un h r c d ng mo ex wi f) (hn : n < 2) (q : ∀ f' : Nat → Nat, (∀ j, j < 16 → f' j = 0) → Q (.inl none) (ix_up (ix_up h r (cO 5 [.int (nI n), .ref c, .long ex, .long wi, .int (nI 0)])) d (cN f'))) : ix_M 97 [.ref r, .int (nI n)] h Q := by
  obtain ⟨O, N, b1, b2⟩ := U
  have hrd : r ≠ d := O.ne N.2.1
  have hrc : c ≠ r := N.1.ne2 O (by decide)
  have O1 : ix_ob (ix_up h r (cO 5 [.int (nI n), .ref c, .long ex, .long wi, .int (nI mo)])) r 5 [.int (nI n), .ref c, .long ex, .long wi, .int (nI mo)] := O.nw _
  have N1 : nt (ix_up h r (cO 5 [.int (nI n), .ref c, .long ex, .long wi, .int (nI mo)])) c d f := N.up hrc hrd.symm
  have fin : ix_E 97 5 [some (.ref r), some (.int (nI n))] [] (ix_up h r (cO 5 [.int (nI n), .ref c, .long ex, .long wi, .int (nI mo)])) Q := by
    refine jx (pc' := 6) (L' := [_, _]) (st' := [_]) 1 rfl ?_
    refine jgf (pc' := 9) O1 rfl rfl rfl rfl rfl ?_
    refine jcv (pc' := 12) 53 [] [] N1.1 rfl rfl rfl rfl rfl rfl rfl rfl ?_
    refine c_clear N1 fun f' hf => jk ?_
    have O2 : ix_ob (ix_up (ix_up h r (cO 5 [.int (nI n), .ref c, .long ex, .long wi, .int (nI mo)])) d (cN f')) r 5 [.int (nI n), .ref c, .long ex, .long wi, .int (nI mo)] := O1.up hrd
    refine jx (pc' := 14) (L' := [_, _]) (st' := [.int (nI 0), _]) 2 rfl ?_
    refine jpf (pc' := 17) O2 rfl rfl rfl (Nat.le_of_ble_eq_true rfl) (by intro z; cases z) rfl rfl rfl ?_
    rw [ix_up_sw _ _ _ hrd.symm, ix_up_up]
    refine ix_qr _ rfl rfl rfl ?_
    exact q f' hf
  have h01 : n = 0 ∨ n = 1 := by omega
  rcases h01 with rfl | rfl
  · skip
    refine jx (pc' := 2) (L' := [_, _]) (st' := [_, _]) 2 rfl ?_
    refine jpf (pc' := 5) O rfl rfl rfl (Nat.le_of_ble_eq_true rfl) (by intro z; cases z) rfl rfl rfl ?_
    exact fin
  · skip
    refine jx (pc' := 2) (L' := [_, _]) (st' := [_, _]) 2 rfl ?_
    refine jpf (pc' := 5) O rfl rfl rfl (Nat.le_of_ble_eq_true rfl) (by intro z; cases z) rfl rfl rfl ?_
    exact fin
end UNR
