/-! ===== Datum: setGreatest ===== -/
theorem fD_le {k : Nat} (h : k < 3) : fD k ≤ 34 ∧ 7 ≤ fD k := by rcases f3 h with rfl | rfl | rfl <;> decide
section DAT
variable {h : ix_H} {Q : ix_O → ix_H → Prop} {r c d fm so ng : Nat} {ex : Int} {f : Nat → Nat}
/-- Datum.setGreatest -/
theorem c_setGreatest (D : dt h r c d fm so ng ex f) (T : ix_tab h) (q : ∀ f' : Nat → Nat, (∀ j, j < 16 → f' j < 1000000000) → vl f' 16 = 10 ^ fD fm - 1 → Q (.inl none) (ix_up (ix_up h r (cO 3 [.int (nI fm), .int (nI 0), .int (nI ng), .int (zI ((fE fm : Int) - fD fm + 1)), .ref c])) d (cN f'))) : ix_M 86 [.ref r] h Q := by
  obtain ⟨O, N, b1, b2, b3, b4⟩ := D
  have hrd : r ≠ d := O.ne N.2.1
  have hrc : c ≠ r := N.1.ne2 O (by decide)
  have hd := fD_le b1
  have O1 : ix_ob (ix_up h r (cO 3 [.int (nI fm), .int (nI 0), .int (nI ng), .int (zI ex), .ref c])) r 3 [.int (nI fm), .int (nI 0), .int (nI ng), .int (zI ex), .ref c] := O.nw _
  have T1 : ix_tab (ix_up h r (cO 3 [.int (nI fm), .int (nI 0), .int (nI ng), .int (zI ex), .ref c])) := T.up O.2.1
  have O2 : ix_ob (ix_up h r (cO 3 [.int (nI fm), .int (nI 0), .int (nI ng), .int (zI ((fE fm : Int) - fD fm + 1)), .ref c])) r 3 [.int (nI fm), .int (nI 0), .int (nI ng), .int (zI ((fE fm : Int) - fD fm + 1)), .ref c] := O.nw _
  have T2 : ix_tab (ix_up h r (cO 3 [.int (nI fm), .int (nI 0), .int (nI ng), .int (zI ((fE fm : Int) - fD fm + 1)), .ref c])) := T.up O.2.1
  have N2 : nt (ix_up h r (cO 3 [.int (nI fm), .int (nI 0), .int (nI ng), .int (zI ((fE fm : Int) - fD fm + 1)), .ref c])) c d f := N.up hrc hrd.symm
  refine jx (pc' := 2) (L' := [_]) (st' := [.int (nI 0), _]) 2 rfl ?_
  refine jpf (pc' := 5) O rfl rfl rfl (Nat.le_of_ble_eq_true rfl) (by intro z; cases z) rfl rfl rfl ?_
  refine jx (pc' := 7) (L' := [_]) (st' := [_, _]) 2 rfl ?_
  refine jgf (pc' := 10) O1 rfl rfl rfl rfl rfl ?_
  refine jcs (pc' := 13) 46 [_] [_] rfl rfl rfl rfl rfl rfl rfl rfl ?_
  refine c_greatestExponent T1 b1 (jk ?_)
  refine jpf (pc' := 16) O1 rfl rfl rfl (Nat.le_of_ble_eq_true rfl) (by intro z; cases z) rfl rfl rfl ?_
  rw [ix_up_up]
  refine jx (pc' := 17) (L' := [_]) (st' := [_]) 1 rfl ?_
  refine jgf (pc' := 20) O2 rfl rfl rfl rfl rfl ?_
  refine jx (pc' := 24) (L' := [_]) (st' := [_, _, _]) 2 rfl ?_
  refine jgf (pc' := 27) O2 rfl rfl rfl rfl rfl ?_
  refine jat (pc' := 28) T2 rfl rfl ⟨by decide, b1⟩ rfl ?_
  rw [tv1 b1, ← zI_n (by omega)]
  refine jcv (pc' := 31) 66 [_] [] N2.1 rfl rfl rfl rfl rfl rfl rfl rfl ?_
  refine c_setNines N2 T2 (by omega) fun f' l hv => jk ?_
  refine ix_qr _ rfl rfl rfl ?_
  exact q f' l hv
end DAT
