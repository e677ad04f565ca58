/-! ===== Datum and Unrounded over abstract heaps ===== -/
abbrev dC (r fm so : Nat) (ng : Bool) (ex : Int) : ix_C := cO 3 [.int (nI fm), .int (nI so), .int (bI ng), .int (zI ex), .ref (r + 1)]
abbrev uC (r : Nat) (ng mo : Bool) (ex wi : Int) : ix_C := cO 5 [.int (bI ng), .ref (r + 1), .long (zL ex), .long (zL wi), .int (bI mo)]
section DAT
variable {h : ix_H} {Q : ix_O → ix_H → Prop} {S : Nat → AC} {r fm so co r' fm' so' co' b y : Nat} {ng ng' mo mo' : Bool} {ex ex' wi wi' : Int}
theorem tn2 (b : Bool) : b.toNat < 2 := by cases b <;> decide
theorem Inv.dt (I : Inv h S) (D : S r = aC (dC r fm so ng ex)) (C : S (r + 1) = aN co) (hf : fm < 3) (hs : so < 4) (hx : zr ex) : ∃ f, dt h r (r + 1) (r + 1 + 1) fm so ng.toNat ex f ∧ vl f 16 = co := by
  obtain ⟨⟨f, n, hv⟩, _⟩ := I.nv C
  exact ⟨f, ⟨I.ob D, n, hf, hs, tn2 _, hx⟩, hv⟩
theorem Inv.un (I : Inv h S) (D : S r = aC (uC r ng mo ex wi)) (C : S (r + 1) = aN co) : ∃ f, un h r (r + 1) (r + 1 + 1) ng.toNat mo.toNat (zL ex) (zL wi) f ∧ vl f 16 = co := by
  obtain ⟨⟨f, n, hv⟩, _⟩ := I.nv C
  exact ⟨f, ⟨I.ob D, n, tn2 _, tn2 _⟩, hv⟩
theorem Inv.two {f' : Nat → Nat} {ci : Nat} {fs gs : List Value} (I : Inv h S) (D : S r = aC (cO ci fs)) (C : S (r + 1) = aN co) (l : ∀ j, j < 16 → f' j < 1000000000) : Inv (ix_up (ix_up h r (cO ci gs)) (r + 1 + 1) (cN f')) (va_up (va_up S r (aC (cO ci gs))) (r + 1) (aN (vl f' 16))) :=
  (I.pc (c' := cO ci gs) D (I.cl D).2.2.2).pn (by rw [va_up_ne _ _ (by omega)]; exact C) l
theorem v_isInfinite (I : Inv h S) (D : S r = aC (dC r fm so ng ex)) (hs : so < 4) (q : Q (.inl (some (.int (bI (decide (so = 1)))))) h) : ix_M 78 [.ref r] h Q := by
  have O := I.ob D
  refine jx (pc' := 1) (L' := [_]) (st' := [_]) 1 rfl ?_
  refine jgf (pc' := 4) O rfl rfl rfl rfl rfl ?_
  by_cases e : so = 1
  · skip
    refine jx (pc' := 5) (L' := [_]) (st' := [.int (nI 1), _]) 1 rfl ?_
    refine jcn (pc' := 8) 12 rfl rfl rfl rfl (by rw [cc_ne (by omega) (by omega)]; exact decide_eq_false (by omega)) ?_
    refine jx (pc' := 13) (L' := [_]) (st' := [.int (nI 1)]) 2 rfl ?_
    refine ix_qr _ rfl rfl rfl ?_
    rw [decide_eq_true e] at q
    exact q
  · skip
    refine jx (pc' := 5) (L' := [_]) (st' := [.int (nI 1), _]) 1 rfl ?_
    refine jct (pc' := 12) rfl rfl rfl (by rw [cc_ne (by omega) (by omega)]; exact decide_eq_true (by omega)) ?_
    refine jx (pc' := 13) (L' := [_]) (st' := [.int (nI 0)]) 1 rfl ?_
    refine ix_qr _ rfl rfl rfl ?_
    rw [decide_eq_false e] at q
    exact q
theorem v_isFinite (I : Inv h S) (D : S r = aC (dC r fm so ng ex)) (hs : so < 4) (q : Q (.inl (some (.int (bI (decide (so = 0)))))) h) : ix_M 82 [.ref r] h Q := by
  have O := I.ob D
  refine jx (pc' := 1) (L' := [_]) (st' := [_]) 1 rfl ?_
  refine jgf (pc' := 4) O rfl rfl rfl rfl rfl ?_
  by_cases e : so = 0
  · skip
    refine jin (pc' := 7) 11 rfl rfl rfl rfl (by rw [cz_ne (by omega)]; exact decide_eq_false (by omega)) ?_
    refine jx (pc' := 12) (L' := [_]) (st' := [.int (nI 1)]) 2 rfl ?_
    refine ix_qr _ rfl rfl rfl ?_
    rw [decide_eq_true e] at q
    exact q
  · skip
    refine jit (pc' := 11) rfl rfl rfl (by rw [cz_ne (by omega)]; exact decide_eq_true (by omega)) ?_
    refine jx (pc' := 12) (L' := [_]) (st' := [.int (nI 0)]) 1 rfl ?_
    refine ix_qr _ rfl rfl rfl ?_
    rw [decide_eq_false e] at q
    exact q
theorem v_isNaN (I : Inv h S) (D : S r = aC (dC r fm so ng ex)) (hs : so < 4) (q : Q (.inl (some (.int (bI (decide (2 ≤ so)))))) h) : ix_M 79 [.ref r] h Q := by
  have O := I.ob D
  refine jx (pc' := 1) (L' := [_]) (st' := [_]) 1 rfl ?_
  refine jgf (pc' := 4) O rfl rfl rfl rfl rfl ?_
  by_cases e : so = 2
  · skip
    refine jx (pc' := 5) (L' := [_]) (st' := [.int (nI 2), _]) 1 rfl ?_
    refine jct (pc' := 16) rfl rfl rfl (by rw [cc_eq (by omega) (by omega)]; exact decide_eq_true (by omega)) ?_
    refine jx (pc' := 21) (L' := [_]) (st' := [.int (nI 1)]) 2 rfl ?_
    refine ix_qr _ rfl rfl rfl ?_
    rw [decide_eq_true (by omega)] at q
    exact q
  · skip
    refine jx (pc' := 5) (L' := [_]) (st' := [.int (nI 2), _]) 1 rfl ?_
    refine jcn (pc' := 8) 16 rfl rfl rfl rfl (by rw [cc_eq (by omega) (by omega)]; exact decide_eq_false (by omega)) ?_
    refine jx (pc' := 9) (L' := [_]) (st' := [_]) 1 rfl ?_
    refine jgf (pc' := 12) O rfl rfl rfl rfl rfl ?_
    by_cases e3 : so = 3
    · skip
      refine jx (pc' := 13) (L' := [_]) (st' := [.int (nI 3), _]) 1 rfl ?_
      refine jcn (pc' := 16) 20 rfl rfl rfl rfl (by rw [cc_ne (by omega) (by omega)]; exact decide_eq_false (by omega)) ?_
      refine jx (pc' := 21) (L' := [_]) (st' := [.int (nI 1)]) 2 rfl ?_
      refine ix_qr _ rfl rfl rfl ?_
      rw [decide_eq_true (by omega)] at q
      exact q
    · skip
      refine jx (pc' := 13) (L' := [_]) (st' := [.int (nI 3), _]) 1 rfl ?_
      refine jct (pc' := 20) rfl rfl rfl (by rw [cc_ne (by omega) (by omega)]; exact decide_eq_true (by omega)) ?_
      refine jx (pc' := 21) (L' := [_]) (st' := [.int (nI 0)]) 1 rfl ?_
      refine ix_qr _ rfl rfl rfl ?_
      rw [decide_eq_false (by omega)] at q
      exact q
theorem v_isZero (I : Inv h S) (D : S r = aC (dC r fm so ng ex)) (C : S (r + 1) = aN co) (hs : so < 4) (q : Q (.inl (some (.int (bI (decide (so = 0) && decide (co = 0)))))) h) : ix_M 80 [.ref r] h Q := by
  have O := I.ob D
  refine jx (pc' := 1) (L' := [_]) (st' := [_]) 1 rfl ?_
  refine jgf (pc' := 4) O rfl rfl rfl rfl rfl ?_
  by_cases e : so = 0
  · skip
    refine jin (pc' := 7) 21 rfl rfl rfl rfl (by rw [cz_ne (by omega)]; exact decide_eq_false (by omega)) ?_
    refine jx (pc' := 8) (L' := [_]) (st' := [_]) 1 rfl ?_
    refine jgf (pc' := 11) (I.ob (r := r) D) rfl rfl rfl rfl rfl ?_
    refine jcv (pc' := 14) 51 [] [] (I.no (r := (r+1)) C) rfl rfl rfl rfl rfl rfl rfl rfl ?_
    refine v_used I C fun u hu hz => jk ?_
    rw [decide_eq_true e] at q
    by_cases e3 : co = 0
    · have hu0 := hz.mpr e3
      refine jin (pc' := 17) 21 rfl rfl rfl rfl (by rw [cz_ne (by omega)]; exact decide_eq_false (by omega)) ?_
      refine jx (pc' := 22) (L' := [_]) (st' := [.int (nI 1)]) 2 rfl ?_
      refine ix_qr _ rfl rfl rfl ?_
      rw [decide_eq_true e3] at q
      exact q
    · have hu0 : ¬ u = 0 := fun z => e3 (hz.mp z)
      refine jit (pc' := 21) rfl rfl rfl (by rw [cz_ne (by omega)]; exact decide_eq_true (by omega)) ?_
      refine jx (pc' := 22) (L' := [_]) (st' := [.int (nI 0)]) 1 rfl ?_
      refine ix_qr _ rfl rfl rfl ?_
      rw [decide_eq_false e3] at q
      exact q
  · skip
    refine jit (pc' := 21) rfl rfl rfl (by rw [cz_ne (by omega)]; exact decide_eq_true (by omega)) ?_
    refine jx (pc' := 22) (L' := [_]) (st' := [.int (nI 0)]) 1 rfl ?_
    refine ix_qr _ rfl rfl rfl ?_
    rw [decide_eq_false e] at q
    exact q
theorem v_setSpecial {s : Nat} (I : Inv h S) (D : S r = aC (dC r fm so ng ex)) (C : S (r + 1) = aN co) (hf : fm < 3) (hs : so < 4) (hx : zr ex) (q : ∀ h', Inv h' (va_up (va_up S r (aC (dC r fm s ng 0))) (r + 1) (aN 0)) → Q (.inl none) h') : ix_M 83 [.ref r, .int (nI s)] h Q := by
  obtain ⟨f, d, hv⟩ := I.dt D C hf hs hx
  refine c_setSpecial d fun f' e => q _ ?_
  have := I.two (gs := [.int (nI fm), .int (nI s), .int (bI ng), .int (zI 0), .ref (r + 1)]) D C (f' := f') (fun j hj => by rw [e j hj]; decide)
  rw [vl_0 e] at this
  exact this
theorem v_setFinite {x : Int} (I : Inv h S) (D : S r = aC (dC r fm so ng ex)) (C : S (r + 1) = aN co) (B : S b = aN y) (hf : fm < 3) (hs : so < 4) (hx : zr ex) (hb : r ≠ b + 1) (q : ∀ h', Inv h' (va_up (va_up S r (aC (dC r fm 0 ng x))) (r + 1) (aN y)) → Q (.inl none) h') : ix_M 84 [.ref r, .ref b, .int (zI x)] h Q := by
  obtain ⟨f, d, hv⟩ := I.dt D C hf hs hx
  obtain ⟨⟨g, n, hw⟩, _⟩ := I.nv B
  refine c_setFinite d n hb fun f' e => q _ ?_
  have := I.two (gs := [.int (nI fm), .int (nI 0), .int (bI ng), .int (zI x), .ref (r + 1)]) D C (f' := f') (fun j hj => by rw [e j hj]; exact n.2.2 j hj)
  rw [vl_cg e, hw] at this
  exact this
theorem v_dcopy (I : Inv h S) (D : S r = aC (dC r fm so ng ex)) (C : S (r + 1) = aN co) (E : S r' = aC (dC r' fm' so' ng' ex')) (B : S (r' + 1) = aN co') (hf : fm < 3) (hs : so < 4) (hx : zr ex) (hf' : fm' < 3) (hs' : so' < 4) (hx' : zr ex') (hn : r ≠ r') (q : ∀ h', Inv h' (va_up (va_up S r (aC (dC r fm' so' ng' ex'))) (r + 1) (aN co')) → Q (.inl none) h') : ix_M 85 [.ref r, .ref r'] h Q := by
  obtain ⟨f, d, hv⟩ := I.dt D C hf hs hx
  obtain ⟨g, e, hw⟩ := I.dt E B hf' hs' hx'
  refine c_dcopy d e hn fun f' e' => q _ ?_
  have := I.two (gs := [.int (nI fm'), .int (nI so'), .int (bI ng'), .int (zI ex'), .ref (r + 1)]) D C (f' := f') (fun j hj => by rw [e' j hj]; exact e.2.1.2.2 j hj)
  rw [vl_cg e', hw] at this
  exact this
theorem v_setGreatest (I : Inv h S) (D : S r = aC (dC r fm so ng ex)) (C : S (r + 1) = aN co) (hf : fm < 3) (hs : so < 4) (hx : zr ex) (q : ∀ h', Inv h' (va_up (va_up S r (aC (dC r fm 0 ng ((fE fm : Int) - fD fm + 1)))) (r + 1) (aN (10 ^ fD fm - 1))) → Q (.inl none) h') : ix_M 86 [.ref r] h Q := by
  obtain ⟨f, d, hv⟩ := I.dt D C hf hs hx
  refine c_setGreatest d I.tab fun f' l e => q _ ?_
  have := I.two (gs := [.int (nI fm), .int (nI 0), .int (bI ng), .int (zI ((fE fm : Int) - fD fm + 1)), .ref (r + 1)]) D C l
  rw [e] at this
  exact this
theorem v_isTiny (I : Inv h S) (D : S r = aC (dC r fm so ng ex)) (C : S (r + 1) = aN co) (hf : fm < 3) (hs : so < 4) (hx : -1000000 ≤ ex ∧ ex ≤ 1000000) (q : Q (.inl (some (.int (bI (decide (ex + dgs co ≤ 1 - fE fm)))))) h) : ix_M 81 [.ref r] h Q := by
  obtain ⟨f, d, hv⟩ := I.dt D C hf hs ⟨by omega, by omega⟩
  refine c_isTiny d I.tab hx fun n h1 h2 h3 h4 => ?_
  rw [hv] at h2 h3 h4
  rw [dgs_eq h2 h3 h4]
  refine ⟨fun z => ?_, fun z => ?_⟩
  · rw [decide_eq_true z] at q; exact q
  · rw [decide_eq_false (by omega)] at q; exact q
theorem v_setZero {n : Bool} (I : Inv h S) (D : S r = aC (uC r ng mo ex wi)) (C : S (r + 1) = aN co) (q : ∀ h', Inv h' (va_up (va_up S r (aC (uC r n false ex wi))) (r + 1) (aN 0)) → Q (.inl none) h') : ix_M 97 [.ref r, .int (bI n)] h Q := by
  obtain ⟨f, d, hv⟩ := I.un D C
  refine c_setZero (n := n.toNat) d (tn2 n) fun f' e => q _ ?_
  have := I.two (gs := [.int (bI n), .ref (r + 1), .long (zL ex), .long (zL wi), .int (bI false)]) D C (f' := f') (fun j hj => by rw [e j hj]; decide)
  rw [vl_0 e] at this
  exact this
theorem v_lowerExponent {p : Int} (I : Inv h S) (D : S r = aC (uC r ng mo ex wi)) (C : S (r + 1) = aN co) (hp : zr p) (hs : co * 10 ^ p.toNat < 10 ^ 144) (q : ∀ h', Inv h' (va_up (va_up S (r + 1) (aN (co * 10 ^ p.toNat))) r (aC (uC r ng mo (ex - p) wi))) → Q (.inl none) h') : ix_M 99 [.ref r, .int (zI p)] h Q := by
  have hp1 := hp.1
  have hp2 := hp.2
  refine jx (pc' := 1) (L' := [_, _]) (st' := [_]) 1 rfl ?_
  refine jgf (pc' := 4) (I.ob (r := r) D) rfl rfl rfl rfl rfl ?_
  refine jx (pc' := 5) (L' := [_, _]) (st' := [_, _]) 1 rfl ?_
  refine jcv (pc' := 8) 56 [_] [] (I.no (r := (r+1)) C) rfl rfl rfl rfl rfl rfl rfl rfl ?_
  refine v_shiftUp I C hp hs fun _ I => jk ?_
  have D : va_up S (r + 1) (aN (co * 10 ^ p.toNat)) r = aC (uC r ng mo ex wi) := by rw [va_up_ne _ _ (by omega)]; exact D
  refine jx (pc' := 10) (L' := [_, _]) (st' := [_, _]) 2 rfl ?_
  refine jgf (pc' := 13) (I.ob (r := r) D) rfl rfl rfl rfl rfl ?_
  refine jx (pc' := 16) (L' := [_, _]) (st' := [_, _]) 3 rfl ?_
  try simp (disch := omega) only [kz, kzl, kzb, kzs, zI_add, zI_sub, zI_neg, zI_mul, zL_i, zI_l, zL_add, zL_sub, zL_neg]
  refine jpA (pc' := 19) (r := r) I D rfl rfl rfl (Nat.le_of_ble_eq_true rfl) (by intro z; cases z) rfl rfl rfl fun _ I D => ?_
  refine ix_qr _ rfl rfl rfl ?_
  exact q _ I
theorem v_dropZeros (I : Inv h S) (D : S r = aC (uC r ng mo ex wi)) (C : S (r + 1) = aN co) (q : tz co ≤ 144 → ∀ h', Inv h' (va_up (va_up S (r + 1) (aN (co / 10 ^ tz co))) r (aC (uC r ng mo (ex + tz co) wi))) → Q (.inl none) h') : ix_M 100 [.ref r] h Q := by
  refine jx (pc' := 1) (L' := [_, _]) (st' := [_]) 1 rfl ?_
  refine jgf (pc' := 4) (I.ob (r := r) D) rfl rfl rfl rfl rfl ?_
  refine jcv (pc' := 7) 67 [] [] (I.no (r := (r+1)) C) rfl rfl rfl rfl rfl rfl rfl rfl ?_
  refine v_zerosAtEnd I C fun hz => jk ?_
  have e0 : nI (tz co) = zI (tz co : Int) := nz _
  rw [e0]
  refine jx (pc' := 9) (L' := [_, _]) (st' := [_]) 2 rfl ?_
  refine jgf (pc' := 12) (I.ob (r := r) D) rfl rfl rfl rfl rfl ?_
  refine jx (pc' := 13) (L' := [_, _]) (st' := [_, _]) 1 rfl ?_
  refine jcv (pc' := 16) 64 [_] [] (I.no (r := (r+1)) C) rfl rfl rfl rfl rfl rfl rfl rfl ?_
  refine v_shiftDown I C ⟨by omega, by omega⟩ fun _ I => jk ?_
  rw [Int.toNat_natCast] at I
  have D : va_up S (r + 1) (aN (co / 10 ^ tz co)) r = aC (uC r ng mo ex wi) := by rw [va_up_ne _ _ (by omega)]; exact D
  refine jx (pc' := 18) (L' := [_, _]) (st' := [_, _]) 2 rfl ?_
  refine jgf (pc' := 21) (I.ob (r := r) D) rfl rfl rfl rfl rfl ?_
  refine jx (pc' := 24) (L' := [_, _]) (st' := [_, _]) 3 rfl ?_
  try simp (disch := omega) only [kz, kzl, kzb, kzs, zI_add, zI_sub, zI_neg, zI_mul, zL_i, zI_l, zL_add, zL_sub, zL_neg]
  refine jpA (pc' := 27) (r := r) I D rfl rfl rfl (Nat.le_of_ble_eq_true rfl) (by intro z; cases z) rfl rfl rfl fun _ I D => ?_
  refine ix_qr _ rfl rfl rfl ?_
  exact q hz _ I
/-- Unrounded.take -/
theorem v_take (I : Inv h S) (D : S r = aC (uC r ng mo ex wi)) (C : S (r + 1) = aN co) (E : S r' = aC (dC r' fm' so' ng' ex')) (B : S (r' + 1) = aN co') (hx' : zr ex') (h1 : r ≠ r') (h2 : r ≠ r' + 1) (h3 : r' ≠ r + 1) (q : ∀ h', Inv h' (va_up (va_up S r (aC (uC r ng' false ex' ex'))) (r + 1) (aN co')) → Q (.inl none) h') : ix_M 96 [.ref r, .ref r'] h Q := by
  have hx1 := hx'.1
  have hx2 := hx'.2
  have E' : ∀ x y : AC, va_up (va_up S r x) (r + 1) y r' = aC (dC r' fm' so' ng' ex') := fun x y => by rw [va_up_ne _ _ h3, va_up_ne _ _ h1.symm]; exact E
  have E0 : ∀ x : AC, va_up S r x r' = aC (dC r' fm' so' ng' ex') := fun x => by rw [va_up_ne _ _ h1.symm]; exact E
  have B0 : ∀ x : AC, va_up S r x (r' + 1) = aN co' := fun x => by rw [va_up_ne _ _ h2.symm]; exact B
  have C0 : ∀ x : AC, va_up S r x (r + 1) = aN co := fun x => by rw [va_up_ne _ _ (by omega)]; exact C
  refine jx (pc' := 2) (L' := [_, _]) (st' := [_, _]) 2 rfl ?_
  refine jgf (pc' := 5) (I.ob (r := r') E) rfl rfl rfl rfl rfl ?_
  refine jpA (pc' := 8) (r := r) I D rfl rfl rfl (Nat.le_of_ble_eq_true rfl) (by intro z; cases z) (nb _) (fb _) rfl fun _ I D => ?_
  refine jx (pc' := 9) (L' := [_, _]) (st' := [_]) 1 rfl ?_
  refine jgf (pc' := 12) (I.ob (r := r) (va_up_self _ _ _)) rfl rfl rfl rfl rfl ?_
  refine jx (pc' := 13) (L' := [_, _]) (st' := [_, _]) 1 rfl ?_
  refine jgf (pc' := 16) (I.ob (r := r') (E0 _)) rfl rfl rfl rfl rfl ?_
  refine jcv (pc' := 19) 48 [_] [] (I.no (r := (r+1)) (C0 _)) rfl rfl rfl rfl rfl rfl rfl rfl ?_
  refine v_copy I (C0 _) (B0 _) fun _ I => jk ?_
  have D1 : ∀ x y : AC, va_up (va_up S r x) (r + 1) y r = x := fun x y => by rw [va_up_ne _ _ (by omega), va_up_self]
  refine jx (pc' := 21) (L' := [_, _]) (st' := [_, _]) 2 rfl ?_
  refine jgf (pc' := 24) (I.ob (r := r') (E' _ _)) rfl rfl rfl rfl rfl ?_
  refine jx (pc' := 25) (L' := [_, _]) (st' := [_, _]) 1 rfl ?_
  try simp (disch := omega) only [kz, kzl, kzb, kzs, zI_add, zI_sub, zI_neg, zI_mul, zL_i, zI_l, zL_add, zL_sub, zL_neg]
  refine jpA (pc' := 28) (r := r) I (D1 _ _) rfl rfl rfl (Nat.le_of_ble_eq_true rfl) (by intro z; cases z) rfl rfl rfl fun _ I X_ => ?_
  have E2 : ∀ x y z : AC, va_up (va_up (va_up S r x) (r + 1) y) r z r' = aC (dC r' fm' so' ng' ex') := fun x y z => by rw [va_up_ne _ _ h1.symm]; exact E' x y
  refine jx (pc' := 30) (L' := [_, _]) (st' := [_, _]) 2 rfl ?_
  refine jgf (pc' := 33) (I.ob (r := r') (E2 _ _ _)) rfl rfl rfl rfl rfl ?_
  refine jx (pc' := 34) (L' := [_, _]) (st' := [_, _]) 1 rfl ?_
  try simp (disch := omega) only [kz, kzl, kzb, kzs, zI_add, zI_sub, zI_neg, zI_mul, zL_i, zI_l, zL_add, zL_sub, zL_neg]
  refine jpA (pc' := 37) (r := r) I (va_up_self _ _ _) rfl rfl rfl (Nat.le_of_ble_eq_true rfl) (by intro z; cases z) rfl rfl rfl fun _ I X_ => ?_
  refine jx (pc' := 39) (L' := [_, _]) (st' := [.int (zI 0), _]) 2 rfl ?_
  rw [va_up_up] at I
  refine jpA (pc' := 42) (r := r) I (va_up_self _ _ _) rfl rfl rfl (Nat.le_of_ble_eq_true rfl) (by intro z; cases z) rfl rfl rfl fun _ I X_ => ?_
  refine ix_qr _ rfl rfl rfl ?_
  rw [va_up_up] at I
  refine q _ ?_
  have sw : ∀ x y z : AC, va_up (va_up (va_up S r x) (r + 1) y) r z = va_up (va_up S r z) (r + 1) y := fun x y z => by
    funext j
    by_cases e : j = r
    · subst e
      rw [va_up_self, va_up_ne _ _ (by omega), va_up_self]
    · rw [va_up_ne _ _ e]
      by_cases e2 : j = r + 1
      · subst e2
        rw [va_up_self, va_up_self]
      · rw [va_up_ne _ _ e2, va_up_ne _ _ e2, va_up_ne _ _ e, va_up_ne _ _ e]
  rw [sw] at I
  exact I
end DAT
