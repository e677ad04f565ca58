/-! ===== Datum: setFinite, copy ===== -/
section DAT
variable {h : ix_H} {Q : ix_O → ix_H → Prop} {r c d fm so ng b e : Nat} {ex : Int} {f g : Nat → Nat}
/-- Datum.setFinite -/
theorem c_setFinite {x : Int32} (D : dt h r c d fm so ng ex f) (B : nt h b e g) (hne : r ≠ e) (q : ∀ f' : Nat → Nat, (∀ j, j < 16 → f' j = g j) → Q (.inl none) (ix_up (ix_up h r (cO 3 [.int (nI fm), .int (nI 0), .int (nI ng), .int x, .ref c])) d (cN f'))) : ix_M 84 [.ref r, .ref b, .int x] h Q := by
  obtain ⟨O, N, b1, b2, b3, b4⟩ := D
  have hrd : r ≠ d := O.ne N.2.1
  have hrc : c ≠ r := N.1.ne2 O (by decide)
  have hrb : b ≠ r := B.1.ne2 O (by decide)
  have O1 : ix_ob (ix_up h r (cO 3 [.int (nI fm), .int (nI 0), .int (nI ng), .int (zI ex), .ref c])) r 3 [.int (nI fm), .int (nI 0), .int (nI ng), .int (zI ex), .ref c] := O.nw _
  have O2 : ix_ob (ix_up h r (cO 3 [.int (nI fm), .int (nI 0), .int (nI ng), .int x, .ref c])) r 3 [.int (nI fm), .int (nI 0), .int (nI ng), .int x, .ref c] := O.nw _
  have N2 : nt (ix_up h r (cO 3 [.int (nI fm), .int (nI 0), .int (nI ng), .int x, .ref c])) c d f := N.up hrc hrd.symm
  have B2 : nt (ix_up h r (cO 3 [.int (nI fm), .int (nI 0), .int (nI ng), .int x, .ref c])) b e g := B.up hrb hne.symm
  refine jx (pc' := 2) (L' := [_, _, _]) (st' := [.int (nI 0), _]) 2 rfl ?_
  refine jpf (pc' := 5) O rfl rfl rfl (Nat.le_of_ble_eq_true rfl) (by intro z; cases z) rfl rfl rfl ?_
  refine jx (pc' := 7) (L' := [_, _, _]) (st' := [_, _]) 2 rfl ?_
  refine jpf (pc' := 10) O1 rfl rfl rfl (Nat.le_of_ble_eq_true rfl) (by intro z; cases z) rfl rfl rfl ?_
  rw [ix_up_up]
  refine jx (pc' := 11) (L' := [_, _, _]) (st' := [_]) 1 rfl ?_
  refine jgf (pc' := 14) O2 rfl rfl rfl rfl rfl ?_
  refine jx (pc' := 15) (L' := [_, _, _]) (st' := [_, _]) 1 rfl ?_
  refine jcv (pc' := 18) 48 [_] [] N2.1 rfl rfl rfl rfl rfl rfl rfl rfl ?_
  refine c_copy N2 B2 fun f' hf => jk ?_
  refine ix_qr _ rfl rfl rfl ?_
  exact q f' hf
end DAT
