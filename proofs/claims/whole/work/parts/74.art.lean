/-! ===== Arithmetic: quantized, scaled, converted ===== -/
noncomputable def qzR (dir : Nat) (A B : Dm) : Dm × Nat :=
  if A.2.1 = 1 ∨ B.2.1 = 1 then (if A.2.1 = 1 ∧ B.2.1 = 1 then (A, 0) else (iv A, 1)) else
  if B.2.2.2.1 - A.2.2.2.1 < 0 ∧ ¬ A.2.2.2.2 = 0 ∧ (fD A.1 : Int) < dgs A.2.2.2.2 - (B.2.2.2.1 - A.2.2.2.1) then (iv A, 1) else
  ((A.1, A.2.1, A.2.2.1, B.2.2.2.1, cutV A.2.2.2.2 (B.2.2.2.1 - A.2.2.2.1) false dir A.2.2.1 * 10 ^ (-(B.2.2.2.1 - A.2.2.2.1)).toNat), if cutI A.2.2.2.2 (B.2.2.2.1 - A.2.2.2.1) false then 16 else 0)
noncomputable def scR (dir : Nat) (n : Int) (A : Dm) : Dm × Nat :=
  if 2 ≤ A.2.1 then (nq (nanP A A A), (nanS A A A).toNat) else if A.2.1 = 1 then (A, 0) else
  rdo dir A (.inr (A.2.2.1, false, A.2.2.2.1 + n, A.2.2.2.1 + n, A.2.2.2.2))
noncomputable def cvR (dir f : Nat) (A : Dm) : Dm × Nat :=
  if 2 ≤ A.2.1 then ((f, 3, (nanP A A A).2.2.1, (nanP A A A).2.2.2.1, (nanP A A A).2.2.2.2 % 10 ^ (fD f - 1)), (nanS A A A).toNat) else
  if A.2.1 = 1 then ((f, A.2.1, A.2.2.1, A.2.2.2.1, A.2.2.2.2), 0) else
  rdo dir (f, A.2.1, A.2.2.1, A.2.2.2.1, A.2.2.2.2) (.inr (A.2.2.1, false, A.2.2.2.1, A.2.2.2.1, A.2.2.2.2))
theorem b34 {x : Nat} (h : x < 10 ^ 34) : x + 1 < 10 ^ 144 := by
  have : (10 : Nat) ^ 34 < 10 ^ 144 := plt (by decide)
  omega
theorem nanP1 (A : Dm) : nanP A A A = A := by
  unfold nanP
  generalize (if nanS A A A = true then 2 else 3) = k
  split
  · rfl
  · rfl
section ART
variable {h : ix_H} {Q : ix_O → ix_H → Prop} {S : Nat → AC} {a b c what cx cy dir f : Nat} {da db dc dr : Dm} {nx ny nB : Bool} {n : Int}
theorem v_quantized (I : Inv h S) (L : Lay S) (R : ResD S da) (A : RegD S a da) (B : RegD S b db) (hd : dir < 5) (hA : da.2.1 < 2) (hB : db.2.1 < 2) (q : ∀ h' S' v, Inv h' S' → Lay S' → ag arl S S' → Out S' da (.inl (qzR dir da db)) v → Q (.inl (some v)) h') : ix_M 129 [.ref 34, .ref a, .ref b, .int (nI dir)] h Q := by
  obtain ⟨wn, AR⟩ := L.1
  obtain ⟨r1, r2, r3, r4, r5⟩ := R
  have A2 := A.2.1
  have B2 := B.2.1
  have A3 := A.2.2.1
  have vA := A.2.2.2
  have vB := B.2.2.2
  have bA := vA.b
  have bB := vB.b
  have dA := vA.d
  have cA := vA.c
  unfold qzR at q
  have ti : (da.2.1 = 1 ∨ db.2.1 = 1) → ix_E 129 14 [some (.ref 34), some (.ref a), some (.ref b), some (.int (nI dir)), none, none] [] h Q := by
    intro hi
    simp only [if_pos hi] at q
    have tv : ¬ (da.2.1 = 1 ∧ db.2.1 = 1) → ix_E 129 32 [some (.ref 34), some (.ref a), some (.ref b), some (.int (nI dir)), none, none] [] h Q := by
      intro hn
      simp only [if_neg hn] at q
      refine jx (pc' := 33) (L' := [_, _, _, _, _, _]) (st' := [_]) 1 rfl ?_
      refine jcv (pc' := 36) 117 [] [] (I.ob (r := 34) AR) rfl rfl rfl rfl rfl rfl rfl rfl ?_
      refine v_invalid I L ⟨r1, r2, r3, r4, r5⟩ fun h' S' I' L' g R' => jk ?_
      refine jri rfl rfl ?_
      exact q _ _ _ I' L' (g.w (by decide)) ⟨R', (by decide : 1 < 32), rfl⟩
    refine jx (pc' := 15) (L' := [_, _, _, _, _, _]) (st' := [_]) 1 rfl ?_
    refine jcv (pc' := 18) 78 [] [] (I.ob (r := a) A2) rfl rfl rfl rfl rfl rfl rfl rfl ?_
    refine v_isInfinite I A2 vA.2.1 (jk ?_)
    by_cases e1 : da.2.1 = 1
    · skip
      refine jin (pc' := 21) 32 rfl rfl rfl rfl (by rw [bz_eq]; simp [e1]) ?_
      refine jx (pc' := 22) (L' := [_, _, _, _, _, _]) (st' := [_]) 1 rfl ?_
      refine jcv (pc' := 25) 78 [] [] (I.ob (r := b) B2) rfl rfl rfl rfl rfl rfl rfl rfl ?_
      refine v_isInfinite I B2 vB.2.1 (jk ?_)
      by_cases e2 : db.2.1 = 1
      · skip
        refine jin (pc' := 28) 32 rfl rfl rfl rfl (by rw [bz_eq]; simp [e2]) ?_
        refine jx (pc' := 36) (L' := [_, _, _, _, _, _]) (st' := [.int (zI 0)]) 2 rfl ?_
        refine jri rfl rfl ?_
        have hn : da.2.1 = 1 ∧ db.2.1 = 1 := ⟨e1, e2⟩
        simp only [if_pos hn] at q
        exact q _ _ _ I L (ag_0 _ S) ⟨⟨r1, r2, r3, r4, r5⟩, (by decide : 0 < 32), rfl⟩
      · skip
        refine jit (pc' := 32) rfl rfl rfl (by rw [bz_eq]; simp [e2]) ?_
        exact tv (fun z => e2 z.2)
    · skip
      refine jit (pc' := 32) rfl rfl rfl (by rw [bz_eq]; simp [e1]) ?_
      exact tv (fun z => e1 z.1)
  have tc : ¬ (da.2.1 = 1 ∨ db.2.1 = 1) → ¬ (db.2.2.2.1 - da.2.2.2.1 < 0 ∧ ¬ da.2.2.2.2 = 0 ∧ (fD da.1 : Int) < dgs da.2.2.2.2 - (db.2.2.2.1 - da.2.2.2.1)) → ix_E 129 86 [some (.ref 34), some (.ref a), some (.ref b), some (.int (nI dir)), some (.int (zI (db.2.2.2.1 - da.2.2.2.1))), none] [] h Q := by
    intro hi hn
    simp only [if_neg hi, if_neg hn] at q
    refine jx (pc' := 87) (L' := [_, _, _, _, _, _]) (st' := [_]) 1 rfl ?_
    refine jgf (pc' := 90) (I.ob (r := 34) AR) rfl rfl rfl rfl rfl ?_
    refine jgf (pc' := 93) (I.ob (r := 35) r1) rfl rfl rfl rfl rfl ?_
    refine jx (pc' := 98) (L' := [_, _, _, _, _, _]) (st' := [_, _, .int (zI 0), _, _]) 4 rfl ?_
    refine jgf (pc' := 101) (I.ob (r := a) A2) rfl rfl rfl rfl rfl ?_
    refine jcs (pc' := 104) 101 [_, _, .int (zI 0), _, _] [] rfl rfl rfl rfl rfl rfl rfl rfl ?_
    refine v_cut (a := 36) (p := db.2.2.2.1 - da.2.2.2.1) (more := false) I r2 ⟨by omega, by omega⟩ hd (b34 cA) fun _ I => jk ?_
    have hsh : cutV da.2.2.2.2 (db.2.2.2.1 - da.2.2.2.1) false dir da.2.2.1 * 10 ^ (-(db.2.2.2.1 - da.2.2.2.1)).toNat < 10 ^ 144 := by
      by_cases hp : db.2.2.2.1 - da.2.2.2.1 < 0
      · rw [(cut0 (by omega)).2]
        by_cases h0 : da.2.2.2.2 = 0
        · rw [h0, Nat.zero_mul]; exact pp0 _
        · exact Nat.lt_of_lt_of_le (dgs_sh _ _) (pl (by omega))
      · have e0 : (-(db.2.2.2.1 - da.2.2.2.1)).toNat = 0 := by omega
        rw [e0, Nat.pow_zero, Nat.mul_one]
        exact Nat.lt_of_le_of_lt (cutV_le1 _ _ _ _ _) (b34 cA)
    have A2' : ∀ v : AC, va_up S 36 v a = aC (dC a da.1 da.2.1 da.2.2.1 da.2.2.2.1) := fun v => (A.up (by decide)).2.1
    have B2' : ∀ v : AC, va_up S 36 v b = aC (dC b db.1 db.2.1 db.2.2.1 db.2.2.2.1) := fun v => (B.up (by decide)).2.1
    have B2'' : ∀ v w : AC, va_up (va_up S 36 v) 36 w b = aC (dC b db.1 db.2.1 db.2.2.1 db.2.2.2.1) := fun v w => ((B.up (by decide)).up (by decide)).2.1
    refine jx (pc' := 107) (L' := [_, _, _, _, _, _]) (st' := [_]) 2 rfl ?_
    refine jgf (pc' := 110) (I.ob (r := 34) AR) rfl rfl rfl rfl rfl ?_
    refine jgf (pc' := 113) (I.ob (r := 35) r1) rfl rfl rfl rfl rfl ?_
    refine jx (pc' := 116) (L' := [_, _, _, _, _, _]) (st' := [_, _]) 2 rfl ?_
    try simp (disch := omega) only [kz, kzl0, kzl1, kzb, kzs, zI_add, zI_sub, zI_neg, zI_mul, zL_i, zI_l, zL_add, zL_sub, zL_neg]
    refine jcv (pc' := 119) 56 [_] [] (I.no (r := 36) rfl) rfl rfl rfl rfl rfl rfl rfl rfl ?_
    refine v_shiftUp (a := 36) I rfl ⟨by omega, by omega⟩ hsh fun _ I => jk ?_
    refine jx (pc' := 120) (L' := [_, _, _, _, _, _]) (st' := [_]) 1 rfl ?_
    refine jgf (pc' := 123) (I.ob (r := 34) AR) rfl rfl rfl rfl rfl ?_
    refine jx (pc' := 124) (L' := [_, _, _, _, _, _]) (st' := [_, _]) 1 rfl ?_
    refine jgf (pc' := 127) (I.ob (r := b) (B2'' _ _)) rfl rfl rfl rfl rfl ?_
    refine jpA (pc' := 130) (r := 35) I r1 rfl rfl rfl (Nat.le_of_ble_eq_true rfl) (by intro z; cases z) rfl rfl rfl fun _ I r1 => ?_
    refine jx (pc' := 132) (L' := [_, _, _, _, _, _]) (st' := [_]) 1 rfl ?_
    cases hci : cutI da.2.2.2.2 (db.2.2.2.1 - da.2.2.2.1) false with
    | true =>
      rw [hci] at q
      refine jin (pc' := 135) 140 rfl rfl rfl rfl (rfl) ?_
      refine jx (pc' := 141) (L' := [_, _, _, _, _, _]) (st' := [.int (zI 16)]) 2 rfl ?_
      refine jri rfl rfl ?_
      exact q _ _ _ I L.up36.up36.up35 ((((ag_0 _ S).up (by decide)).up (by decide)).up (by decide)) ⟨⟨rfl, rfl, r3, r4, vB.z⟩, (by decide : 16 < 32), rfl⟩
    | false =>
      rw [hci] at q
      refine jit (pc' := 140) rfl rfl rfl (rfl) ?_
      refine jx (pc' := 141) (L' := [_, _, _, _, _, _]) (st' := [.int (zI 0)]) 1 rfl ?_
      refine jri rfl rfl ?_
      exact q _ _ _ I L.up36.up36.up35 ((((ag_0 _ S).up (by decide)).up (by decide)).up (by decide)) ⟨⟨rfl, rfl, r3, r4, vB.z⟩, (by decide : 0 < 32), rfl⟩
  have tf : ¬ (da.2.1 = 1 ∨ db.2.1 = 1) → ix_E 129 37 [some (.ref 34), some (.ref a), some (.ref b), some (.int (nI dir)), none, none] [] h Q := by
    intro hi
    refine jx (pc' := 38) (L' := [_, _, _, _, _, _]) (st' := [_]) 1 rfl ?_
    refine jgf (pc' := 41) (I.ob (r := b) B2) rfl rfl rfl rfl rfl ?_
    refine jx (pc' := 42) (L' := [_, _, _, _, _, _]) (st' := [_, _]) 1 rfl ?_
    refine jgf (pc' := 45) (I.ob (r := a) A2) rfl rfl rfl rfl rfl ?_
    refine jx (pc' := 50) (L' := [_, _, _, _, _, _]) (st' := [_]) 3 rfl ?_
    try simp (disch := omega) only [kz, kzl0, kzl1, kzb, kzs, zI_add, zI_sub, zI_neg, zI_mul, zL_i, zI_l, zL_add, zL_sub, zL_neg]
    by_cases hp : db.2.2.2.1 - da.2.2.2.1 < 0
    · skip
      refine jin (pc' := 53) 86 rfl rfl rfl rfl (by rw [zz_ge ⟨by omega, by omega⟩]; exact decide_eq_false (by omega)) ?_
      refine jx (pc' := 54) (L' := [_, _, _, _, _, _]) (st' := [_]) 1 rfl ?_
      refine jcv (pc' := 57) 80 [] [] (I.ob (r := a) A2) rfl rfl rfl rfl rfl rfl rfl rfl ?_
      refine v_isZero I A2 A3 vA.2.1 (jk ?_)
      by_cases h0 : da.2.2.2.2 = 0
      · skip
        refine jit (pc' := 86) rfl rfl rfl (by rw [bz_ne]; simp [h0]; omega) ?_
        exact tc hi (fun z => z.2.1 h0)
      · skip
        refine jin (pc' := 60) 86 rfl rfl rfl rfl (by rw [bz_ne]; simp [h0]) ?_
        refine jx (pc' := 61) (L' := [_, _, _, _, _, _]) (st' := [_]) 1 rfl ?_
        refine jgf (pc' := 64) (I.ob (r := a) A2) rfl rfl rfl rfl rfl ?_
        refine jcv (pc' := 67) 52 [] [] (I.no (r := (a+1)) A3) rfl rfl rfl rfl rfl rfl rfl rfl ?_
        refine v_digits I A3 fun _ => jk ?_
        rw [nz (dgs _)]
        refine jx (pc' := 74) (L' := [_, _, _, _, _, _]) (st' := [_, _, _]) 4 rfl ?_
        try simp (disch := omega) only [kz, kzl0, kzl1, kzb, kzs, zI_add, zI_sub, zI_neg, zI_mul, zL_i, zI_l, zL_add, zL_sub, zL_neg]
        refine jgf (pc' := 77) (I.ob (r := a) A2) rfl rfl rfl rfl rfl ?_
        refine jat (pc' := 78) I.tab rfl rfl ⟨by decide, r3⟩ rfl ?_
        rw [tv1 r3]
        by_cases hl : (fD da.1 : Int) < dgs da.2.2.2.2 - (db.2.2.2.1 - da.2.2.2.1)
        · skip
          refine jcn (pc' := 81) 86 rfl rfl rfl rfl (by rw [zc_le ⟨by omega, by omega⟩ ⟨by omega, by omega⟩]; exact decide_eq_false (by omega)) ?_
          have hn : db.2.2.2.1 - da.2.2.2.1 < 0 ∧ ¬ da.2.2.2.2 = 0 ∧ (fD da.1 : Int) < dgs da.2.2.2.2 - (db.2.2.2.1 - da.2.2.2.1) := ⟨hp, h0, hl⟩
          simp only [if_neg hi, if_pos hn] at q
          refine jx (pc' := 82) (L' := [_, _, _, _, _, _]) (st' := [_]) 1 rfl ?_
          refine jcv (pc' := 85) 117 [] [] (I.ob (r := 34) AR) rfl rfl rfl rfl rfl rfl rfl rfl ?_
          refine v_invalid I L ⟨r1, r2, r3, r4, r5⟩ fun h' S' I' L' g R' => jk ?_
          refine jri rfl rfl ?_
          exact q _ _ _ I' L' (g.w (by decide)) ⟨R', (by decide : 1 < 32), rfl⟩
        · skip
          refine jct (pc' := 86) rfl rfl rfl (by rw [zc_le ⟨by omega, by omega⟩ ⟨by omega, by omega⟩]; exact decide_eq_true (by omega)) ?_
          exact tc hi (fun z => hl z.2.2)
    · skip
      refine jit (pc' := 86) rfl rfl rfl (by rw [zz_ge ⟨by omega, by omega⟩]; exact decide_eq_true (by omega)) ?_
      exact tc hi (fun z => hp z.1)
  refine jx (pc' := 1) (L' := [_, _, _, _, _, _]) (st' := [_]) 1 rfl ?_
  refine jcv (pc' := 4) 78 [] [] (I.ob (r := a) A2) rfl rfl rfl rfl rfl rfl rfl rfl ?_
  refine v_isInfinite I A2 vA.2.1 (jk ?_)
  by_cases e1 : da.2.1 = 1
  · skip
    refine jit (pc' := 14) rfl rfl rfl (by rw [bz_ne]; simp [e1]) ?_
    exact ti (Or.inl e1)
  · skip
    refine jin (pc' := 7) 14 rfl rfl rfl rfl (by rw [bz_ne]; simp [e1]) ?_
    refine jx (pc' := 8) (L' := [_, _, _, _, _, _]) (st' := [_]) 1 rfl ?_
    refine jcv (pc' := 11) 78 [] [] (I.ob (r := b) B2) rfl rfl rfl rfl rfl rfl rfl rfl ?_
    refine v_isInfinite I B2 vB.2.1 (jk ?_)
    by_cases e2 : db.2.1 = 1
    · skip
      refine jin (pc' := 14) 37 rfl rfl rfl rfl (by rw [bz_eq]; simp [e2]) ?_
      exact ti (Or.inr e2)
    · skip
      refine jit (pc' := 37) rfl rfl rfl (by rw [bz_eq]; simp [e2]) ?_
      exact tf (fun z => z.elim e1 e2)
/-- Arithmetic.scaled -/
theorem v_scaled (I : Inv h S) (L : Lay S) (R : ResD S dr) (A : RegD S a da) (hd : dir < 5) (hn : zr n) (q : ∀ h' S', Inv h' S' → Lay S' → ag arl S S' → ResD S' (scR dir n da).1 → Q (.inl (some (.int (nI (scR dir n da).2)))) h') : ix_M 139 [.ref 34, .ref a, .int (zI n), .int (nI dir)] h Q := by
  obtain ⟨wn, AR⟩ := L.1
  obtain ⟨n1, n2⟩ := hn
  have vA := A.2.2.2
  have bA := vA.b
  unfold scR at q
  refine jx (pc' := 1) (L' := [_, _, _, _]) (st' := [_]) 1 rfl ?_
  refine jgf (pc' := 4) (I.ob (r := 34) AR) rfl rfl rfl rfl rfl ?_
  refine jx (pc' := 5) (L' := [_, _, _, _]) (st' := [_, _]) 1 rfl ?_
  refine jcv (pc' := 8) 85 [_] [] (I.ob (r := 35) R.1) rfl rfl rfl rfl rfl rfl rfl rfl ?_
  refine v_copyR I R A fun _ I R => jk ?_
  have A1 := (A.up (k := 35) (x := aC (dC 35 da.1 da.2.1 da.2.2.1 da.2.2.2.1)) (by decide)).up (k := 36) (x := aN da.2.2.2.2) (by decide)
  have A2 := A1.2.1
  refine jx (pc' := 9) (L' := [_, _, _, _]) (st' := [_]) 1 rfl ?_
  refine jcv (pc' := 12) 79 [] [] (I.ob (r := a) A2) rfl rfl rfl rfl rfl rfl rfl rfl ?_
  refine v_isNaN I A2 vA.2.1 (jk ?_)
  by_cases e1 : 2 ≤ da.2.1
  · simp only [if_pos e1] at q
    refine jin (pc' := 15) 23 rfl rfl rfl rfl (by rw [bz_eq]; simp [e1]) ?_
    refine jx (pc' := 19) (L' := [_, _, _, _]) (st' := [_, _, _, _]) 4 rfl ?_
    refine jcv (pc' := 22) 115 [_, _, _] [] (I.ob (r := 34) AR) rfl rfl rfl rfl rfl rfl rfl rfl ?_
    refine v_passNaN I L.up35.up36 R A1 A1 A1 fun h' S' I' L' g R' => jk ?_
    refine jri rfl rfl ?_
    exact q _ _ I' L' (((ag_0 arl S).up (by decide)).up (by decide) |>.tr g (by decide)) R'
  · simp only [if_neg e1] at q
    refine jit (pc' := 23) rfl rfl rfl (by rw [bz_eq]; simp [e1]) ?_
    refine jx (pc' := 24) (L' := [_, _, _, _]) (st' := [_]) 1 rfl ?_
    refine jcv (pc' := 27) 78 [] [] (I.ob (r := a) A2) rfl rfl rfl rfl rfl rfl rfl rfl ?_
    refine v_isInfinite I A2 vA.2.1 (jk ?_)
    by_cases e2 : da.2.1 = 1
    · simp only [if_pos e2] at q
      refine jin (pc' := 30) 32 rfl rfl rfl rfl (by rw [bz_eq]; simp [e2]) ?_
      refine jx (pc' := 31) (L' := [_, _, _, _]) (st' := [.int (zI 0)]) 1 rfl ?_
      refine jri rfl rfl ?_
      exact q _ _ I L.up35.up36 (((ag_0 arl S).up (by decide)).up (by decide)) R
    · simp only [if_neg e2] at q
      refine jit (pc' := 32) rfl rfl rfl (by rw [bz_eq]; simp [e2]) ?_
      obtain ⟨_, _, _, _, _, X0, XC0⟩ := L.2.1
      refine jx (pc' := 33) (L' := [_, _, _, _]) (st' := [_]) 1 rfl ?_
      refine jgf (pc' := 36) (I.ob (r := 34) AR) rfl rfl rfl rfl rfl ?_
      refine jx (pc' := 37) (L' := [_, _, _, _]) (st' := [_, _]) 1 rfl ?_
      refine jcv (pc' := 40) 96 [_] [] (I.ob (r := 38) X0) rfl rfl rfl rfl rfl rfl rfl rfl ?_
      refine v_takeX I L.up35.up36 A1 fun _ I => jk ?_
      have X1 : va_up (va_up (va_up (va_up S 35 (aC (dC 35 da.1 da.2.1 da.2.2.1 da.2.2.2.1))) 36 (aN da.2.2.2.2)) 38 (aC (uC 38 da.2.2.1 false da.2.2.2.1 da.2.2.2.1))) 39 (aN da.2.2.2.2) 38 = aC (uC 38 da.2.2.1 false da.2.2.2.1 da.2.2.2.1) := rfl
      refine jx (pc' := 41) (L' := [_, _, _, _]) (st' := [_]) 1 rfl ?_
      refine jgf (pc' := 44) (I.ob (r := 34) AR) rfl rfl rfl rfl rfl ?_
      refine jx (pc' := 45) (L' := [_, _, _, _]) (st' := [_, _]) 1 rfl ?_
      refine jgf (pc' := 48) (I.ob (r := 38) X1) rfl rfl rfl rfl rfl ?_
      refine jx (pc' := 51) (L' := [_, _, _, _]) (st' := [_, _]) 3 rfl ?_
      try simp (disch := omega) only [kz, kzl0, kzl1, kzb, kzs, zI_add, zI_sub, zI_neg, zI_mul, zL_i, zI_l, zL_add, zL_sub, zL_neg]
      refine jpA (pc' := 54) (r := 38) I X1 rfl rfl rfl (Nat.le_of_ble_eq_true rfl) (by intro z; cases z) rfl rfl rfl fun _ I X1 => ?_
      refine jx (pc' := 55) (L' := [_, _, _, _]) (st' := [_]) 1 rfl ?_
      refine jgf (pc' := 58) (I.ob (r := 34) AR) rfl rfl rfl rfl rfl ?_
      refine jx (pc' := 59) (L' := [_, _, _, _]) (st' := [_, _]) 1 rfl ?_
      refine jgf (pc' := 62) (I.ob (r := 34) AR) rfl rfl rfl rfl rfl ?_
      refine jgf (pc' := 65) (I.ob (r := 38) X1) rfl rfl rfl rfl rfl ?_
      refine jpA (pc' := 68) (r := 38) I X1 rfl rfl rfl (Nat.le_of_ble_eq_true rfl) (by intro z; cases z) rfl rfl rfl fun _ I X1 => ?_
      refine jx (pc' := 69) (L' := [_, _, _, _]) (st' := [_]) 1 rfl ?_
      refine jgf (pc' := 72) (I.ob (r := 34) AR) rfl rfl rfl rfl rfl ?_
      refine jx (pc' := 74) (L' := [_, _, _, _]) (st' := [_, _, _]) 2 rfl ?_
      refine jgf (pc' := 77) (I.ob (r := 34) AR) rfl rfl rfl rfl rfl ?_
      refine jcs (pc' := 80) 103 [_, _, _] [] rfl rfl rfl rfl rfl rfl rfl rfl ?_
      refine v_roundR (u := (da.2.2.1, false, da.2.2.2.1 + n, da.2.2.2.1 + n, da.2.2.2.2)) I L.up35.up36.up38.up39.up38.up38 R rfl rfl ⟨b34 vA.c, by dsimp only; omega, by dsimp only; omega, by dsimp only; omega, by dsimp only; omega⟩ hd fun h' S' I' L' g R' => jk ?_
      refine jri rfl rfl ?_
      exact q _ _ I' L' ((((((((ag_0 arl S).up (by decide)).up (by decide)).up (by decide)).up (by decide)).up (by decide)).up (by decide)).tr g (by decide)) R'
/-- Arithmetic.converted -/
theorem v_converted (I : Inv h S) (L : Lay S) (R : ResD S dr) (A : RegD S a da) (hd : dir < 5) (hf : f < 3) (q : ∀ h' S', Inv h' S' → Lay S' → ag arl S S' → ResD S' (cvR dir f da).1 → Q (.inl (some (.int (nI (cvR dir f da).2)))) h') : ix_M 140 [.ref 34, .ref a, .int (nI f), .int (nI dir)] h Q := by
  obtain ⟨wn, AR⟩ := L.1
  have vA := A.2.2.2
  have bA := vA.b
  have hfD := (f3b hf).1
  have hfD2 := (f3b hf).2.1
  unfold cvR at q
  refine jx (pc' := 1) (L' := [_, _, _, _, _]) (st' := [_]) 1 rfl ?_
  refine jgf (pc' := 4) (I.ob (r := 34) AR) rfl rfl rfl rfl rfl ?_
  refine jx (pc' := 5) (L' := [_, _, _, _, _]) (st' := [_, _]) 1 rfl ?_
  refine jcv (pc' := 8) 85 [_] [] (I.ob (r := 35) R.1) rfl rfl rfl rfl rfl rfl rfl rfl ?_
  refine v_copyR I R A fun _ I R => jk ?_
  have A1 := (A.up (k := 35) (x := aC (dC 35 da.1 da.2.1 da.2.2.1 da.2.2.2.1)) (by decide)).up (k := 36) (x := aN da.2.2.2.2) (by decide)
  have A2 := A1.2.1
  refine jx (pc' := 9) (L' := [_, _, _, _, _]) (st' := [_]) 1 rfl ?_
  refine jcv (pc' := 12) 79 [] [] (I.ob (r := a) A2) rfl rfl rfl rfl rfl rfl rfl rfl ?_
  refine v_isNaN I A2 vA.2.1 (jk ?_)
  by_cases e1 : 2 ≤ da.2.1
  · simp only [if_pos e1] at q
    refine jin (pc' := 15) 52 rfl rfl rfl rfl (by rw [bz_eq]; simp [e1]) ?_
    refine jx (pc' := 19) (L' := [_, _, _, _, _]) (st' := [_, _, _, _]) 4 rfl ?_
    refine jcv (pc' := 22) 115 [_, _, _] [] (I.ob (r := 34) AR) rfl rfl rfl rfl rfl rfl rfl rfl ?_
    refine v_passNaN I L.up35.up36 R A1 A1 A1 fun h' S' I L' g R' => jk ?_
    obtain ⟨r1, r2, r3, r4, r5⟩ := R'
    obtain ⟨wn', AR'⟩ := L'.1
    refine jx (pc' := 25) (L' := [_, _, _, _, _]) (st' := [_]) 2 rfl ?_
    refine jgf (pc' := 28) (I.ob (r := 34) AR') rfl rfl rfl rfl rfl ?_
    refine jx (pc' := 29) (L' := [_, _, _, _, _]) (st' := [_, _]) 1 rfl ?_
    refine jpA (pc' := 32) (r := 35) I r1 rfl rfl rfl (Nat.le_of_ble_eq_true rfl) (by intro z; cases z) rfl rfl rfl fun _ I r1 => ?_
    refine jx (pc' := 33) (L' := [_, _, _, _, _]) (st' := [_]) 1 rfl ?_
    refine jgf (pc' := 36) (I.ob (r := 34) AR') rfl rfl rfl rfl rfl ?_
    refine jgf (pc' := 39) (I.ob (r := 35) r1) rfl rfl rfl rfl rfl ?_
    refine jx (pc' := 43) (L' := [_, _, _, _, _]) (st' := [_, _, _]) 2 rfl ?_
    refine jat (pc' := 44) I.tab rfl rfl ⟨by decide, hf⟩ rfl ?_
    rw [tv1 hf]
    refine jx (pc' := 46) (L' := [_, _, _, _, _]) (st' := [_, _]) 2 rfl ?_
    try simp (disch := omega) only [kz, kzl0, kzl1, kzb, kzs, zI_add, zI_sub, zI_neg, zI_mul, zL_i, zI_l, zL_add, zL_sub, zL_neg]
    rw [show (fD f : Int) - 1 = ((fD f - 1 : Nat) : Int) by omega, ← nz]
    refine jcv (pc' := 49) 70 [_] [] (I.no (r := 36) r2) rfl rfl rfl rfl rfl rfl rfl rfl ?_
    refine v_keepLowest (a := 36) I r2 (by omega) fun _ I => jk ?_
    refine jx (pc' := 51) (L' := [_, _, _, _, _]) (st' := [_]) 1 rfl ?_
    refine jri rfl rfl ?_
    exact q _ _ I L'.up35.up36 (((((ag_0 arl S).up (by decide)).up (by decide)).tr g (by decide)).up (by decide) |>.up (by decide)) ⟨rfl, rfl, hf, (by decide : 3 < 4), r5⟩
  · simp only [if_neg e1] at q
    refine jit (pc' := 52) rfl rfl rfl (by rw [bz_eq]; simp [e1]) ?_
    have R1 := R.1
    refine jx (pc' := 53) (L' := [_, _, _, _, _]) (st' := [_]) 1 rfl ?_
    refine jgf (pc' := 56) (I.ob (r := 34) AR) rfl rfl rfl rfl rfl ?_
    refine jx (pc' := 57) (L' := [_, _, _, _, _]) (st' := [_, _]) 1 rfl ?_
    refine jpA (pc' := 60) (r := 35) I R1 rfl rfl rfl (Nat.le_of_ble_eq_true rfl) (by intro z; cases z) rfl rfl rfl fun _ I R1 => ?_
    have A3 : RegD (va_up (va_up (va_up S 35 (aC (dC 35 da.1 da.2.1 da.2.2.1 da.2.2.2.1))) 36 (aN da.2.2.2.2)) 35 (aC (dC 35 f da.2.1 da.2.2.1 da.2.2.2.1))) a da := A1.up (by decide)
    refine jx (pc' := 61) (L' := [_, _, _, _, _]) (st' := [_]) 1 rfl ?_
    refine jcv (pc' := 64) 78 [] [] (I.ob (r := a) A3.2.1) rfl rfl rfl rfl rfl rfl rfl rfl ?_
    refine v_isInfinite I A3.2.1 vA.2.1 (jk ?_)
    by_cases e2 : da.2.1 = 1
    · simp only [if_pos e2] at q
      refine jin (pc' := 67) 69 rfl rfl rfl rfl (by rw [bz_eq]; simp [e2]) ?_
      refine jx (pc' := 68) (L' := [_, _, _, _, _]) (st' := [.int (zI 0)]) 1 rfl ?_
      refine jri rfl rfl ?_
      exact q _ _ I L.up35.up36.up35 ((((ag_0 arl S).up (by decide)).up (by decide)).up (by decide)) ⟨rfl, rfl, hf, R.2.2.2⟩
    · simp only [if_neg e2] at q
      refine jit (pc' := 69) rfl rfl rfl (by rw [bz_eq]; simp [e2]) ?_
      obtain ⟨_, _, _, _, _, X0, XC0⟩ := L.2.1
      refine jx (pc' := 70) (L' := [_, _, _, _, _]) (st' := [_]) 1 rfl ?_
      refine jgf (pc' := 73) (I.ob (r := 34) AR) rfl rfl rfl rfl rfl ?_
      refine jx (pc' := 74) (L' := [_, _, _, _, _]) (st' := [_, _]) 1 rfl ?_
      refine jcv (pc' := 77) 96 [_] [] (I.ob (r := 38) X0) rfl rfl rfl rfl rfl rfl rfl rfl ?_
      refine v_takeX I L.up35.up36.up35 A3 fun _ I => jk ?_
      refine jx (pc' := 78) (L' := [_, _, _, _, _]) (st' := [_]) 1 rfl ?_
      refine jgf (pc' := 81) (I.ob (r := 34) AR) rfl rfl rfl rfl rfl ?_
      refine jx (pc' := 83) (L' := [_, _, _, _, _]) (st' := [_, _, _]) 2 rfl ?_
      refine jgf (pc' := 86) (I.ob (r := 34) AR) rfl rfl rfl rfl rfl ?_
      refine jcs (pc' := 89) 103 [_, _, _] [] rfl rfl rfl rfl rfl rfl rfl rfl ?_
      refine v_roundR (u := (da.2.2.1, false, da.2.2.2.1, da.2.2.2.1, da.2.2.2.2)) (dr := (f, da.2.1, da.2.2.1, da.2.2.2.1, da.2.2.2.2)) I L.up35.up36.up35.up38.up39 ⟨rfl, rfl, hf, R.2.2.2⟩ rfl rfl ⟨b34 vA.c, by dsimp only; omega, by dsimp only; omega, by dsimp only; omega, by dsimp only; omega⟩ hd fun h' S' I' L' g R' => jk ?_
      refine jri rfl rfl ?_
      exact q _ _ I' L' (((((((ag_0 arl S).up (by decide)).up (by decide)).up (by decide)).up (by decide)).up (by decide)).tr g (by decide)) R'
end ART
