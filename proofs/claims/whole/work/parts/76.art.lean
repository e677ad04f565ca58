/-! ===== Arithmetic: ofThree ===== -/
def zbi (A B : Dm) : Bool := (decide (A.2.1 = 0) && decide (A.2.2.2.2 = 0) && decide (B.2.1 = 1)) || (decide (A.2.1 = 1) && (decide (B.2.1 = 0) && decide (B.2.2.2.2 = 0)))
abbrev xo (A B : Dm) : Bool := decide (¬ A.2.2.1 = B.2.2.1)
noncomputable def fuX (dir : Nat) (A B C : Dm) : Bool × Int × Nat := adX (fD A.1) dir (xo A B) (A.2.2.2.1 + B.2.2.2.1) (A.2.2.2.2 * B.2.2.2.2) C.2.2.1 C.2.2.2.1 C.2.2.2.2
noncomputable def o3R (dir : Nat) (A B C : Dm) : Dm × Nat :=
  if 2 ≤ A.2.1 ∨ 2 ≤ B.2.1 ∨ 2 ≤ C.2.1 then (nq (nanP A B C), (nanS A B C || zbi A B).toNat) else
  if zbi A B then (iv A, 1) else
  if A.2.1 = 1 ∨ B.2.1 = 1 then (if C.2.1 = 1 ∧ ¬ C.2.2.1 = xo A B then (iv A, 1) else (inf A (xo A B), 0)) else
  if C.2.1 = 1 then (inf A C.2.2.1, 0) else
  rdo dir A (.inr ((fuX dir A B C).1, false, (fuX dir A B C).2.1, min (A.2.2.2.1 + B.2.2.2.1) C.2.2.2.1, (fuX dir A B C).2.2))
section ART
variable {h : ix_H} {Q : ix_O → ix_H → Prop} {S : Nat → AC} {a b c what cx cy dir f : Nat} {da db dc dr : Dm} {m nx ny nB : Bool} {n : Int}
theorem v_ofThree (I0 : Inv h S) (L0 : Lay S) (R0 : ResD S dr) (A0 : RegD S a da) (B0 : RegD S b db) (C0 : RegD S c dc) (hd : dir < 5) (q0 : ∀ h' S', Inv h' S' → Lay S' → ag arl S S' → ResD S' (o3R dir da db dc).1 → Q (.inl (some (.int (nI (o3R dir da db dc).2)))) h') : ix_M 131 [.ref 34, .ref a, .ref b, .ref c, .int (nI dir)] h Q := by
  obtain ⟨wn, AR0⟩ := L0.1
  have I := I0
  refine jx (pc' := 1) (L' := [_, _, _, _, _, _, _]) (st' := [_]) 1 rfl ?_
  refine jgf (pc' := 4) (I.ob (r := 34) AR0) rfl rfl rfl rfl rfl ?_
  refine jx (pc' := 5) (L' := [_, _, _, _, _, _, _]) (st' := [_, _]) 1 rfl ?_
  refine jcv (pc' := 8) 85 [_] [] (I.ob (r := 35) R0.1) rfl rfl rfl rfl rfl rfl rfl rfl ?_
  refine v_copyR I0 R0 A0 fun k I R => jk ?_
  have g0 : ag arl S (va_up (va_up S 35 (aC (dC 35 da.1 da.2.1 da.2.2.1 da.2.2.2.1))) 36 (aN da.2.2.2.2)) := ((ag_0 arl S).up (by decide)).up (by decide)
  have L : Lay (va_up (va_up S 35 (aC (dC 35 da.1 da.2.1 da.2.2.1 da.2.2.2.1))) 36 (aN da.2.2.2.2)) := L0.up35.up36
  have A : RegD (va_up (va_up S 35 (aC (dC 35 da.1 da.2.1 da.2.2.1 da.2.2.2.1))) 36 (aN da.2.2.2.2)) a da := (A0.up (by decide)).up (by decide)
  have B : RegD (va_up (va_up S 35 (aC (dC 35 da.1 da.2.1 da.2.2.1 da.2.2.2.1))) 36 (aN da.2.2.2.2)) b db := (B0.up (by decide)).up (by decide)
  have C : RegD (va_up (va_up S 35 (aC (dC 35 da.1 da.2.1 da.2.2.1 da.2.2.2.1))) 36 (aN da.2.2.2.2)) c dc := (C0.up (by decide)).up (by decide)
  have q : ∀ h' S', Inv h' S' → Lay S' → ag arl (va_up (va_up S 35 (aC (dC 35 da.1 da.2.1 da.2.2.1 da.2.2.2.1))) 36 (aN da.2.2.2.2)) S' → ResD S' (o3R dir da db dc).1 → Q (.inl (some (.int (nI (o3R dir da db dc).2)))) h' := fun h' S' I' L' g R' => q0 h' S' I' L' (g0.tr g (fun _ z => z)) R'
  generalize (va_up (va_up S 35 (aC (dC 35 da.1 da.2.1 da.2.2.1 da.2.2.2.1))) 36 (aN da.2.2.2.2)) = T at *
  obtain ⟨wn, AR⟩ := L.1
  have A2 := A.2.1
  have B2 := B.2.1
  have C2 := C.2.1
  have A3 := A.2.2.1
  have B3 := B.2.2.1
  have vA := A.2.2.2
  have vB := B.2.2.2
  have vC := C.2.2.2
  have bA := vA.b
  have bB := vB.b
  have bC := vC.b
  unfold o3R at q
  have tn : ∀ z : Bool, z = zbi da db → (2 ≤ da.2.1 ∨ 2 ≤ db.2.1 ∨ 2 ≤ dc.2.1) → ix_E 131 64 [some (.ref 34), some (.ref a), some (.ref b), some (.ref c), some (.int (nI dir)), some (.int (bI z)), none] [] k Q := by
    intro z hz hn
    simp only [if_pos hn, ← hz] at q
    refine jx (pc' := 68) (L' := [_, _, _, _, _, _, _]) (st' := [_, _, _, _]) 4 rfl ?_
    refine jcv (pc' := 71) 115 [_, _, _] [] (I.ob (r := 34) AR) rfl rfl rfl rfl rfl rfl rfl rfl ?_
    refine v_passNaN I L R A B C fun h' S' I' L' g R' => jk ?_
    refine jx (pc' := 73) (L' := [_, _, _, _, _, _, _]) (st' := [_, _]) 1 rfl ?_
    cases hs : nanS da db dc with
    | true =>
      rw [hs] at q
      cases z with
      | true =>
        refine jin (pc' := 76) 80 rfl rfl rfl rfl (rfl) ?_
        refine jx (pc' := 81) (L' := [_, _, _, _, _, _, _]) (st' := [.int (nI 1), _]) 2 rfl ?_
        refine jx (pc' := 82) (L' := [_, _, _, _, _, _, _]) (st' := [_]) 1 rfl ?_
        try simp (disch := omega) only [nI_add, nI_mul, nI_sub, Nat.zero_mul, Nat.one_mul, Nat.sub_zero, Nat.add_zero, Nat.zero_add, Nat.add_sub_cancel]
        refine jri rfl rfl ?_
        exact q _ _ I' L' (g.w (by decide)) R'
      | false =>
        refine jit (pc' := 80) rfl rfl rfl (rfl) ?_
        refine jx (pc' := 82) (L' := [_, _, _, _, _, _, _]) (st' := [_]) 2 rfl ?_
        try simp (disch := omega) only [ki0, nI_add, nI_mul, nI_sub, Nat.zero_mul, Nat.one_mul, Nat.sub_zero, Nat.add_zero, Nat.zero_add, Nat.add_sub_cancel]
        refine jri rfl rfl ?_
        exact q _ _ I' L' (g.w (by decide)) R'
    | false =>
      rw [hs] at q
      cases z with
      | true =>
        refine jin (pc' := 76) 80 rfl rfl rfl rfl (rfl) ?_
        refine jx (pc' := 81) (L' := [_, _, _, _, _, _, _]) (st' := [.int (nI 1), _]) 2 rfl ?_
        refine jx (pc' := 82) (L' := [_, _, _, _, _, _, _]) (st' := [_]) 1 rfl ?_
        try simp (disch := omega) only [nI_add, nI_mul, nI_sub, Nat.zero_mul, Nat.one_mul, Nat.sub_zero, Nat.add_zero, Nat.zero_add, Nat.add_sub_cancel]
        refine jri rfl rfl ?_
        exact q _ _ I' L' (g.w (by decide)) R'
      | false =>
        refine jit (pc' := 80) rfl rfl rfl (rfl) ?_
        refine jx (pc' := 82) (L' := [_, _, _, _, _, _, _]) (st' := [_]) 2 rfl ?_
        try simp (disch := omega) only [ki0, nI_add, nI_mul, nI_sub, Nat.zero_mul, Nat.one_mul, Nat.sub_zero, Nat.add_zero, Nat.zero_add, Nat.add_sub_cancel]
        refine jri rfl rfl ?_
        exact q _ _ I' L' (g.w (by decide)) R'
  have tf : ¬ (2 ≤ da.2.1 ∨ 2 ≤ db.2.1 ∨ 2 ≤ dc.2.1) → ¬ zbi da db = true → ix_E 131 93 [some (.ref 34), some (.ref a), some (.ref b), some (.ref c), some (.int (nI dir)), some (.int (bI false)), none] [] k Q := by
    intro hn hz
    simp only [if_neg hn, if_neg hz] at q
    have ti : (da.2.1 = 1 ∨ db.2.1 = 1) → ix_E 131 107 [some (.ref 34), some (.ref a), some (.ref b), some (.ref c), some (.int (nI dir)), some (.int (bI false)), none] [] k Q := by
      intro hi
      simp only [if_pos hi] at q
      have tx : ∀ x : Bool, x = xo da db → ix_E 131 123 [some (.ref 34), some (.ref a), some (.ref b), some (.ref c), some (.int (nI dir)), some (.int (bI false)), none] [.int (bI x)] k Q := by
        intro x hx
        rw [← hx] at q
        have t0 : ¬ (dc.2.1 = 1 ∧ ¬ dc.2.2.1 = x) → ix_E 131 148 [some (.ref 34), some (.ref a), some (.ref b), some (.ref c), some (.int (nI dir)), some (.int (bI false)), some (.int (bI x))] [] k Q := by
          intro hc
          simp only [if_neg hc] at q
          refine jx (pc' := 151) (L' := [_, _, _, _, _, _, _]) (st' := [_, _]) 2 rfl ?_
          refine jcv (pc' := 154) 118 [_] [] (I.ob (r := 34) AR) rfl rfl rfl rfl rfl rfl rfl rfl ?_
          refine v_infinite I L R fun h' S' I' L' g R' => jk ?_
          refine jri rfl rfl ?_
          exact q _ _ I' L' (g.w (by decide)) R'
        refine jx (pc' := 126) (L' := [_, _, _, _, _, _, _]) (st' := [_]) 2 rfl ?_
        refine jcv (pc' := 129) 78 [] [] (I.ob (r := c) C2) rfl rfl rfl rfl rfl rfl rfl rfl ?_
        refine v_isInfinite I C2 vC.2.1 (jk ?_)
        by_cases e1 : dc.2.1 = 1
        · skip
          refine jin (pc' := 132) 148 rfl rfl rfl rfl (by rw [bz_eq]; simp [e1]) ?_
          refine jx (pc' := 133) (L' := [_, _, _, _, _, _, _]) (st' := [_]) 1 rfl ?_
          refine jgf (pc' := 136) (I.ob (r := c) C2) rfl rfl rfl rfl rfl ?_
          refine jx (pc' := 138) (L' := [_, _, _, _, _, _, _]) (st' := [_, _]) 1 rfl ?_
          by_cases e2 : dc.2.2.1 = x
          · skip
            refine jct (pc' := 148) rfl rfl rfl (by rw [bc_eq]; exact decide_eq_true e2) ?_
            exact t0 (fun z => z.2 e2)
          · skip
            refine jcn (pc' := 141) 148 rfl rfl rfl rfl (by rw [bc_eq]; exact decide_eq_false e2) ?_
            have hc : dc.2.1 = 1 ∧ ¬ dc.2.2.1 = x := ⟨e1, e2⟩
            simp only [if_pos hc] at q
            refine jx (pc' := 142) (L' := [_, _, _, _, _, _, _]) (st' := [_]) 1 rfl ?_
            refine jcv (pc' := 145) 117 [] [] (I.ob (r := 34) AR) rfl rfl rfl rfl rfl rfl rfl rfl ?_
            refine v_invalid I L R fun h' S' I' L' g R' => jk ?_
            refine jx (pc' := 154) (L' := [_, _, _, _, _, _, _]) (st' := [_]) 1 rfl ?_
            refine jri rfl rfl ?_
            exact q _ _ I' L' (g.w (by decide)) R'
        · skip
          refine jit (pc' := 148) rfl rfl rfl (by rw [bz_eq]; simp [e1]) ?_
          exact t0 (fun z => e1 z.1)
      refine jx (pc' := 108) (L' := [_, _, _, _, _, _, _]) (st' := [_]) 1 rfl ?_
      refine jgf (pc' := 111) (I.ob (r := a) A2) rfl rfl rfl rfl rfl ?_
      refine jx (pc' := 112) (L' := [_, _, _, _, _, _, _]) (st' := [_, _]) 1 rfl ?_
      refine jgf (pc' := 115) (I.ob (r := b) B2) rfl rfl rfl rfl rfl ?_
      by_cases e : da.2.2.1 = db.2.2.1
      · skip
        refine jct (pc' := 122) rfl rfl rfl (by rw [bc_eq]; exact decide_eq_true e) ?_
        refine jx (pc' := 123) (L' := [_, _, _, _, _, _, _]) (st' := [.int (nI 0)]) 1 rfl ?_
        exact tx false (decide_eq_false (fun z => z e)).symm
      · skip
        refine jcn (pc' := 118) 122 rfl rfl rfl rfl (by rw [bc_eq]; exact decide_eq_false e) ?_
        refine jx (pc' := 123) (L' := [_, _, _, _, _, _, _]) (st' := [.int (nI 1)]) 2 rfl ?_
        exact tx true (decide_eq_true e).symm
    refine jx (pc' := 94) (L' := [_, _, _, _, _, _, _]) (st' := [_]) 1 rfl ?_
    refine jcv (pc' := 97) 78 [] [] (I.ob (r := a) A2) rfl rfl rfl rfl rfl rfl rfl rfl ?_
    refine v_isInfinite I A2 vA.2.1 (jk ?_)
    by_cases e1 : da.2.1 = 1
    · skip
      refine jit (pc' := 107) rfl rfl rfl (by rw [bz_ne]; simp [e1]) ?_
      exact ti (Or.inl e1)
    · skip
      refine jin (pc' := 100) 107 rfl rfl rfl rfl (by rw [bz_ne]; simp [e1]) ?_
      refine jx (pc' := 101) (L' := [_, _, _, _, _, _, _]) (st' := [_]) 1 rfl ?_
      refine jcv (pc' := 104) 78 [] [] (I.ob (r := b) B2) rfl rfl rfl rfl rfl rfl rfl rfl ?_
      refine v_isInfinite I B2 vB.2.1 (jk ?_)
      by_cases e2 : db.2.1 = 1
      · skip
        refine jin (pc' := 107) 155 rfl rfl rfl rfl (by rw [bz_eq]; simp [e2]) ?_
        exact ti (Or.inr e2)
      · have hi : ¬ (da.2.1 = 1 ∨ db.2.1 = 1) := fun z => z.elim e1 e2
        simp only [if_neg hi] at q
        refine jit (pc' := 155) rfl rfl rfl (by rw [bz_eq]; simp [e2]) ?_
        refine jx (pc' := 156) (L' := [_, _, _, _, _, _, _]) (st' := [_]) 1 rfl ?_
        refine jcv (pc' := 159) 78 [] [] (I.ob (r := c) C2) rfl rfl rfl rfl rfl rfl rfl rfl ?_
        refine v_isInfinite I C2 vC.2.1 (jk ?_)
        by_cases e3 : dc.2.1 = 1
        · simp only [if_pos e3] at q
          refine jin (pc' := 162) 171 rfl rfl rfl rfl (by rw [bz_eq]; simp [e3]) ?_
          refine jx (pc' := 164) (L' := [_, _, _, _, _, _, _]) (st' := [_, _]) 2 rfl ?_
          refine jgf (pc' := 167) (I.ob (r := c) C2) rfl rfl rfl rfl rfl ?_
          refine jcv (pc' := 170) 118 [_] [] (I.ob (r := 34) AR) rfl rfl rfl rfl rfl rfl rfl rfl ?_
          refine v_infinite I L R fun h' S' I' L' g R' => jk ?_
          refine jri rfl rfl ?_
          exact q _ _ I' L' (g.w (by decide)) R'
        · simp only [if_neg e3] at q
          refine jit (pc' := 171) rfl rfl rfl (by rw [bz_eq]; simp [e3]) ?_
          refine jx (pc' := 174) (L' := [_, _, _, _, _, _, _]) (st' := [_, _, _]) 3 rfl ?_
          refine jcv (pc' := 177) 123 [_, _] [] (I.ob (r := 34) AR) rfl rfl rfl rfl rfl rfl rfl rfl ?_
          refine v_multiplyIntoX I L A B fun k1 T1 I1 L1 g1 X1 XC1 => jk ?_
          obtain ⟨wn1, AR1⟩ := L1.1
          obtain ⟨n1, m1, ex1, w1, c1, Y1, YC1⟩ := L1.2.2.1
          have C1 : RegD T1 c dc := C.ag g1 (by decide)
          have I := I1
          refine jx (pc' := 178) (L' := [_, _, _, _, _, _, _]) (st' := [_]) 1 rfl ?_
          refine jgf (pc' := 181) (I.ob (r := 34) AR1) rfl rfl rfl rfl rfl ?_
          refine jx (pc' := 182) (L' := [_, _, _, _, _, _, _]) (st' := [_, _]) 1 rfl ?_
          refine jcv (pc' := 185) 96 [_] [] (I.ob (r := 41) Y1) rfl rfl rfl rfl rfl rfl rfl rfl ?_
          refine v_takeY I1 L1 C1 fun k2 I => jk ?_
          refine jx (pc' := 188) (L' := [_, _, _, _, _, _, _]) (st' := [_, _]) 2 rfl ?_
          refine jcv (pc' := 191) 119 [_] [] (I.ob (r := 34) AR1) rfl rfl rfl rfl rfl rfl rfl rfl ?_
          have hp : da.2.2.2.2 * db.2.2.2.2 < 10 ^ 68 := Nat.lt_of_lt_of_le (Nat.mul_lt_mul'' vA.c vB.c) (by rw [← Nat.pow_add]; exact pl (by decide))
          have dC := vC.d
          have R1 : ResD T1 da := ⟨g1.at 35 (by decide) R.1, g1.at 36 (by decide) R.2.1, R.2.2⟩
          refine v_addToX (S := va_up (va_up T1 41 (aC (uC 41 dc.2.2.1 false dc.2.2.2.1 dc.2.2.2.1))) 42 (aN dc.2.2.2.2)) I L1.up41.up42 R1 X1 XC1 rfl rfl hd (dgs_le hp) (by omega) ⟨by omega, by omega⟩ ⟨by omega, by omega⟩ fun k3 T3 I3 L3 g3 X3 XC3 => jk ?_
          obtain ⟨wn3, AR3⟩ := L3.1
          have I := I3
          have R3 : ResD T3 da := ⟨g3.at 35 (by decide) R1.1, g3.at 36 (by decide) R1.2.1, R.2.2⟩
          refine jx (pc' := 192) (L' := [_, _, _, _, _, _, _]) (st' := [_]) 1 rfl ?_
          refine jgf (pc' := 195) (I.ob (r := 34) AR3) rfl rfl rfl rfl rfl ?_
          refine jx (pc' := 198) (L' := [_, _, _, _, _, _, _]) (st' := [_, _, _]) 2 rfl ?_
          refine jgf (pc' := 201) (I.ob (r := 34) AR3) rfl rfl rfl rfl rfl ?_
          refine jcs (pc' := 204) 103 [_, _, _] [] rfl rfl rfl rfl rfl rfl rfl rfl ?_
          have hb := adX_b (D := fD da.1) (dir := dir) (nx := xo da db) (ny := dc.2.2.1) (ex := da.2.2.2.1 + db.2.2.2.1) (ey := dc.2.2.2.1) (cx := da.2.2.2.2 * db.2.2.2.2) (cy := dc.2.2.2.2) (by have := vA.d; omega) (dgs_le hp) (by omega)
          refine v_roundR (u := ((fuX dir da db dc).1, false, (fuX dir da db dc).2.1, min (da.2.2.2.1 + db.2.2.2.1) dc.2.2.2.1, (fuX dir da db dc).2.2)) I3 L3 R3 X3 XC3 ⟨b138 hb.1, by unfold fuX; dsimp only; omega, by unfold fuX; dsimp only; omega, by dsimp only; omega, by dsimp only; omega⟩ hd fun h' S' I' L' g R' => jk ?_
          refine jri rfl rfl ?_
          exact q _ _ I' L' (((((g1.w (m := arl) (by decide)).up (by decide)).up (by decide)).tr g3 (by decide)).tr g (fun _ z => z)) R'
  have tz : ∀ z : Bool, z = zbi da db → ix_E 131 41 [some (.ref 34), some (.ref a), some (.ref b), some (.ref c), some (.int (nI dir)), none, none] [.int (bI z)] k Q := by
    intro z hz
    refine jx (pc' := 44) (L' := [_, _, _, _, _, _, _]) (st' := [_]) 2 rfl ?_
    refine jcv (pc' := 47) 79 [] [] (I.ob (r := a) A2) rfl rfl rfl rfl rfl rfl rfl rfl ?_
    refine v_isNaN I A2 vA.2.1 (jk ?_)
    by_cases e1 : 2 ≤ da.2.1
    · skip
      refine jit (pc' := 64) rfl rfl rfl (by rw [bz_ne]; simp [e1]) ?_
      exact tn z hz (Or.inl e1)
    · skip
      refine jin (pc' := 50) 64 rfl rfl rfl rfl (by rw [bz_ne]; simp [e1]) ?_
      refine jx (pc' := 51) (L' := [_, _, _, _, _, _, _]) (st' := [_]) 1 rfl ?_
      refine jcv (pc' := 54) 79 [] [] (I.ob (r := b) B2) rfl rfl rfl rfl rfl rfl rfl rfl ?_
      refine v_isNaN I B2 vB.2.1 (jk ?_)
      by_cases e2 : 2 ≤ db.2.1
      · skip
        refine jit (pc' := 64) rfl rfl rfl (by rw [bz_ne]; simp [e2]) ?_
        exact tn z hz (Or.inr (Or.inl e2))
      · skip
        refine jin (pc' := 57) 64 rfl rfl rfl rfl (by rw [bz_ne]; simp [e2]) ?_
        refine jx (pc' := 58) (L' := [_, _, _, _, _, _, _]) (st' := [_]) 1 rfl ?_
        refine jcv (pc' := 61) 79 [] [] (I.ob (r := c) C2) rfl rfl rfl rfl rfl rfl rfl rfl ?_
        refine v_isNaN I C2 vC.2.1 (jk ?_)
        by_cases e3 : 2 ≤ dc.2.1
        · skip
          refine jin (pc' := 64) 83 rfl rfl rfl rfl (by rw [bz_eq]; simp [e3]) ?_
          exact tn z hz (Or.inr (Or.inr e3))
        · have hn : ¬ (2 ≤ da.2.1 ∨ 2 ≤ db.2.1 ∨ 2 ≤ dc.2.1) := by omega
          refine jit (pc' := 83) rfl rfl rfl (by rw [bz_eq]; simp [e3]) ?_
          refine jx (pc' := 85) (L' := [_, _, _, _, _, _, _]) (st' := [_]) 1 rfl ?_
          cases z with
          | true =>
            simp only [if_neg hn, if_pos hz.symm] at q
            refine jin (pc' := 88) 93 rfl rfl rfl rfl (rfl) ?_
            refine jx (pc' := 89) (L' := [_, _, _, _, _, _, _]) (st' := [_]) 1 rfl ?_
            refine jcv (pc' := 92) 117 [] [] (I.ob (r := 34) AR) rfl rfl rfl rfl rfl rfl rfl rfl ?_
            refine v_invalid I L R fun h' S' I' L' g R' => jk ?_
            refine jri rfl rfl ?_
            exact q _ _ I' L' (g.w (by decide)) R'
          | false =>
            refine jit (pc' := 93) rfl rfl rfl (rfl) ?_
            exact tf hn (by rw [← hz]; decide)
  have t1 : ¬ ((da.2.1 = 0 ∧ da.2.2.2.2 = 0) ∧ db.2.1 = 1) → ix_E 131 22 [some (.ref 34), some (.ref a), some (.ref b), some (.ref c), some (.int (nI dir)), none, none] [] k Q := by
    intro h1
    refine jx (pc' := 23) (L' := [_, _, _, _, _, _, _]) (st' := [_]) 1 rfl ?_
    refine jcv (pc' := 26) 78 [] [] (I.ob (r := a) A2) rfl rfl rfl rfl rfl rfl rfl rfl ?_
    refine v_isInfinite I A2 vA.2.1 (jk ?_)
    by_cases e1 : da.2.1 = 1
    · skip
      refine jin (pc' := 29) 40 rfl rfl rfl rfl (by rw [bz_eq]; simp [e1]) ?_
      refine jx (pc' := 30) (L' := [_, _, _, _, _, _, _]) (st' := [_]) 1 rfl ?_
      refine jcv (pc' := 33) 80 [] [] (I.ob (r := b) B2) rfl rfl rfl rfl rfl rfl rfl rfl ?_
      refine v_isZero I B2 B3 vB.2.1 (jk ?_)
      by_cases e2 : db.2.1 = 0 ∧ db.2.2.2.2 = 0
      · skip
        refine jin (pc' := 36) 40 rfl rfl rfl rfl (by rw [bz_eq]; simp [e2]) ?_
        refine jx (pc' := 41) (L' := [_, _, _, _, _, _, _]) (st' := [.int (nI 1)]) 2 rfl ?_
        exact tz true (by unfold zbi; simp [e1, e2])
      · skip
        refine jit (pc' := 40) rfl rfl rfl (by rw [bz_eq]; simp; omega) ?_
        refine jx (pc' := 41) (L' := [_, _, _, _, _, _, _]) (st' := [.int (nI 0)]) 1 rfl ?_
        exact tz false (by unfold zbi; simp [e1]; omega)
    · skip
      refine jit (pc' := 40) rfl rfl rfl (by rw [bz_eq]; simp [e1]) ?_
      refine jx (pc' := 41) (L' := [_, _, _, _, _, _, _]) (st' := [.int (nI 0)]) 1 rfl ?_
      exact tz false (by unfold zbi; simp [e1]; omega)
  refine jx (pc' := 9) (L' := [_, _, _, _, _, _, _]) (st' := [_]) 1 rfl ?_
  refine jcv (pc' := 12) 80 [] [] (I.ob (r := a) A2) rfl rfl rfl rfl rfl rfl rfl rfl ?_
  refine v_isZero I A2 A3 vA.2.1 (jk ?_)
  by_cases e1 : da.2.1 = 0 ∧ da.2.2.2.2 = 0
  · skip
    refine jin (pc' := 15) 22 rfl rfl rfl rfl (by rw [bz_eq]; simp [e1]) ?_
    refine jx (pc' := 16) (L' := [_, _, _, _, _, _, _]) (st' := [_]) 1 rfl ?_
    refine jcv (pc' := 19) 78 [] [] (I.ob (r := b) B2) rfl rfl rfl rfl rfl rfl rfl rfl ?_
    refine v_isInfinite I B2 vB.2.1 (jk ?_)
    by_cases e2 : db.2.1 = 1
    · skip
      refine jit (pc' := 36) rfl rfl rfl (by rw [bz_ne]; simp [e2]) ?_
      refine jx (pc' := 41) (L' := [_, _, _, _, _, _, _]) (st' := [.int (nI 1)]) 2 rfl ?_
      exact tz true (by unfold zbi; simp [e1, e2])
    · skip
      refine jin (pc' := 22) 36 rfl rfl rfl rfl (by rw [bz_ne]; simp [e2]) ?_
      exact t1 (fun z => e2 z.2)
  · skip
    refine jit (pc' := 22) rfl rfl rfl (by rw [bz_eq]; simp; omega) ?_
    exact t1 (fun z => e1 z.1)
end ART
