/-! ===== Datum: what is done to it ===== -/
theorem dt.ne {h : ix_H} {r c d fm so ng : Nat} {ex : Int} {f : Nat → Nat} (D : dt h r c d fm so ng ex f) : r ≠ d := D.1.ne D.2.1.2.1
theorem ix_ob.ne2 {h : ix_H} {r q ci cj : Nat} {fs gs : List Value} (a : ix_ob h r ci fs) (b : ix_ob h q cj gs) (e : ci ≠ cj) : r ≠ q := fun z => by
  have := a.1
  rw [z, b.1] at this
  injection this with this
  injection this with h1 _
  exact e h1.symm
section DAT
variable {h : ix_H} {Q : ix_O → ix_H → Prop} {r c d fm so ng : Nat} {ex : Int} {f : Nat → Nat}
/-- Datum.setSpecial -/
theorem c_setSpecial {s : Nat} (D : dt h r c d fm so ng ex f) (q : ∀ f' : Nat → Nat, (∀ j, j < 16 → f' j = 0) → Q (.inl none) (ix_up (ix_up h r (cO 3 [.int (nI fm), .int (nI s), .int (nI ng), .int (zI 0), .ref c])) d (cN f'))) : ix_M 83 [.ref r, .int (nI s)] h Q := by
  obtain ⟨O, N, b1, b2, b3, b4⟩ := D
  have hrd : r ≠ d := O.ne N.2.1
  have hrc : c ≠ r := N.1.ne2 O (by decide)
  have O1 : ix_ob (ix_up h r (cO 3 [.int (nI fm), .int (nI s), .int (nI ng), .int (zI ex), .ref c])) r 3 [.int (nI fm), .int (nI s), .int (nI ng), .int (zI ex), .ref c] := O.nw _
  have O2 : ix_ob (ix_up h r (cO 3 [.int (nI fm), .int (nI s), .int (nI ng), .int (zI 0), .ref c])) r 3 [.int (nI fm), .int (nI s), .int (nI ng), .int (zI 0), .ref c] := O.nw _
  have N2 : nt (ix_up h r (cO 3 [.int (nI fm), .int (nI s), .int (nI ng), .int (zI 0), .ref c])) c d f := N.up hrc hrd.symm
  refine jx (pc' := 2) (L' := [_, _]) (st' := [_, _]) 2 rfl ?_
  refine jpf (pc' := 5) O rfl rfl rfl (Nat.le_of_ble_eq_true rfl) (by intro z; cases z) rfl rfl rfl ?_
  refine jx (pc' := 7) (L' := [_, _]) (st' := [.int (nI 0), _]) 2 rfl ?_
  refine jpf (pc' := 10) O1 rfl rfl rfl (Nat.le_of_ble_eq_true rfl) (by intro z; cases z) rfl rfl rfl ?_
  rw [ix_up_up]
  refine jx (pc' := 11) (L' := [_, _]) (st' := [_]) 1 rfl ?_
  refine jgf (pc' := 14) O2 rfl rfl rfl rfl rfl ?_
  refine jcv (pc' := 17) 53 [] [] N2.1 rfl rfl rfl rfl rfl rfl rfl rfl ?_
  refine c_clear N2 fun f' hf => jk ?_
  refine ix_qr _ rfl rfl rfl ?_
  exact q f' hf
end DAT
