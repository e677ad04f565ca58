/-! ===== Datum: copy ===== -/
section DAT
variable {h : ix_H} {Q : ix_O → ix_H → Prop} {r c d fm so ng r' c' d' fm' so' ng' : Nat} {ex ex' : Int} {f g : Nat → Nat}
/-- Datum.copy -/
theorem c_dcopy (D : dt h r c d fm so ng ex f) (E : dt h r' c' d' fm' so' ng' ex' g) (h1 : r ≠ r') (q : ∀ f' : Nat → Nat, (∀ j, j < 16 → f' j = g j) → Q (.inl none) (ix_up (ix_up h r (cO 3 [.int (nI fm'), .int (nI so'), .int (nI ng'), .int (zI ex'), .ref c])) d (cN f'))) : ix_M 85 [.ref r, .ref r'] h Q := by
  obtain ⟨O, N, b1, b2, b3, b4⟩ := D
  obtain ⟨P, B, e1, e2, e3, e4⟩ := E
  have hrd : r ≠ d := O.ne N.2.1
  have hrc : c ≠ r := N.1.ne2 O (by decide)
  have hre : r ≠ d' := O.ne B.2.1
  have hrb : c' ≠ r := B.1.ne2 O (by decide)
  have P' : ∀ fs : List Value, ix_ob (ix_up h r (cO 3 fs)) r' 3 [.int (nI fm'), .int (nI so'), .int (nI ng'), .int (zI ex'), .ref c'] := fun fs => P.up h1.symm
  have P1 := P' [.int (nI fm'), .int (nI so), .int (nI ng), .int (zI ex), .ref c]
  have P2 := P' [.int (nI fm'), .int (nI so'), .int (nI ng), .int (zI ex), .ref c]
  have P3 := P' [.int (nI fm'), .int (nI so'), .int (nI ng'), .int (zI ex), .ref c]
  have P4 := P' [.int (nI fm'), .int (nI so'), .int (nI ng'), .int (zI ex'), .ref c]
  have O1 : ix_ob (ix_up h r (cO 3 [.int (nI fm'), .int (nI so), .int (nI ng), .int (zI ex), .ref c])) r 3 [.int (nI fm'), .int (nI so), .int (nI ng), .int (zI ex), .ref c] := O.nw _
  have O2 : ix_ob (ix_up h r (cO 3 [.int (nI fm'), .int (nI so'), .int (nI ng), .int (zI ex), .ref c])) r 3 [.int (nI fm'), .int (nI so'), .int (nI ng), .int (zI ex), .ref c] := O.nw _
  have O3 : ix_ob (ix_up h r (cO 3 [.int (nI fm'), .int (nI so'), .int (nI ng'), .int (zI ex), .ref c])) r 3 [.int (nI fm'), .int (nI so'), .int (nI ng'), .int (zI ex), .ref c] := O.nw _
  have O4 : ix_ob (ix_up h r (cO 3 [.int (nI fm'), .int (nI so'), .int (nI ng'), .int (zI ex'), .ref c])) r 3 [.int (nI fm'), .int (nI so'), .int (nI ng'), .int (zI ex'), .ref c] := O.nw _
  have N4 : nt (ix_up h r (cO 3 [.int (nI fm'), .int (nI so'), .int (nI ng'), .int (zI ex'), .ref c])) c d f := N.up hrc hrd.symm
  have B4 : nt (ix_up h r (cO 3 [.int (nI fm'), .int (nI so'), .int (nI ng'), .int (zI ex'), .ref c])) c' d' g := B.up hrb hre.symm
  have hng : ng' = 0 ∨ ng' = 1 := by omega
  refine jx (pc' := 2) (L' := [_, _]) (st' := [_, _]) 2 rfl ?_
  refine jgf (pc' := 5) P rfl rfl rfl rfl rfl ?_
  refine jpf (pc' := 8) O rfl rfl rfl (Nat.le_of_ble_eq_true rfl) (by intro z; cases z) rfl rfl rfl ?_
  refine jx (pc' := 10) (L' := [_, _]) (st' := [_, _]) 2 rfl ?_
  refine jgf (pc' := 13) P1 rfl rfl rfl rfl rfl ?_
  refine jpf (pc' := 16) O1 rfl rfl rfl (Nat.le_of_ble_eq_true rfl) (by intro z; cases z) rfl rfl rfl ?_
  rw [ix_up_up]
  refine jx (pc' := 18) (L' := [_, _]) (st' := [_, _]) 2 rfl ?_
  refine jgf (pc' := 21) P2 rfl rfl rfl rfl rfl ?_
  have fin : ix_E 85 24 [some (.ref r), some (.ref r')] [] (ix_up h r (cO 3 [.int (nI fm'), .int (nI so'), .int (nI ng'), .int (zI ex), .ref c])) Q := by
    refine jx (pc' := 26) (L' := [_, _]) (st' := [_, _]) 2 rfl ?_
    refine jgf (pc' := 29) P3 rfl rfl rfl rfl rfl ?_
    refine jpf (pc' := 32) O3 rfl rfl rfl (Nat.le_of_ble_eq_true rfl) (by intro z; cases z) rfl rfl rfl ?_
    rw [ix_up_up]
    refine jx (pc' := 33) (L' := [_, _]) (st' := [_]) 1 rfl ?_
    refine jgf (pc' := 36) O4 rfl rfl rfl rfl rfl ?_
    refine jx (pc' := 37) (L' := [_, _]) (st' := [_, _]) 1 rfl ?_
    refine jgf (pc' := 40) P4 rfl rfl rfl rfl rfl ?_
    refine jcv (pc' := 43) 48 [_] [] N4.1 rfl rfl rfl rfl rfl rfl rfl rfl ?_
    refine c_copy N4 B4 fun f' hf => jk ?_
    refine ix_qr _ rfl rfl rfl ?_
    exact q f' hf
  rcases hng with rfl | rfl
  · skip
    refine jpf (pc' := 24) O2 rfl rfl rfl (Nat.le_of_ble_eq_true rfl) (by intro z; cases z) rfl rfl rfl ?_
    rw [ix_up_up]
    exact fin
  · skip
    refine jpf (pc' := 24) O2 rfl rfl rfl (Nat.le_of_ble_eq_true rfl) (by intro z; cases z) rfl rfl rfl ?_
    rw [ix_up_up]
    exact fin
end DAT
