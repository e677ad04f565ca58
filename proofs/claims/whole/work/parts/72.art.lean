/-! ===== Arithmetic: sum, multiplyIntoX, product ===== -/
/-- a result with its signals, or a value that is still to be rounded: sign, more, exponent, wish, coefficient -/
abbrev OR : Type := (Dm × Nat) ⊕ (Bool × Bool × Int × Int × Nat)
def UB (u : Bool × Bool × Int × Int × Nat) : Prop := u.2.2.2.2 + 1 < 10 ^ 144 ∧ -1099511627776 ≤ u.2.2.1 ∧ u.2.2.1 ≤ 1099511627776 - 144 ∧ -1099511627776 ≤ u.2.2.2.1 ∧ u.2.2.2.1 ≤ 1099511627776
theorem b138 {x : Nat} (h : x < 10 ^ 138) : x + 1 < 10 ^ 144 := by
  have : (10 : Nat) ^ 138 < 10 ^ 144 := plt (by decide)
  omega
def Out (S' : Nat → AC) (dr : Dm) (o : OR) (v : Value) : Prop := match o with
  | .inl x => ResD S' x.1 ∧ x.2 < 32 ∧ v = .int (nI x.2)
  | .inr u => ResD S' dr ∧ S' 38 = aC (uC 38 u.1 u.2.1 u.2.2.1 u.2.2.2.1) ∧ S' 39 = aN u.2.2.2.2 ∧ UB u ∧ v = .int (zI (-1))
abbrev iv (d : Dm) : Dm := (d.1, 3, false, 0, 0)
abbrev inf (d : Dm) (n : Bool) : Dm := (d.1, 1, n, 0, 0)
noncomputable def smR (D dir : Nat) (A B : Dm) (nB : Bool) : OR :=
  if A.2.1 = 1 then (if B.2.1 = 1 ∧ ¬ A.2.2.1 = nB then .inl (iv A, 1) else .inl (inf A A.2.2.1, 0)) else
  if B.2.1 = 1 then .inl (inf A nB, 0) else
  .inr ((adX D dir A.2.2.1 A.2.2.2.1 A.2.2.2.2 nB B.2.2.2.1 B.2.2.2.2).1, false, (adX D dir A.2.2.1 A.2.2.2.1 A.2.2.2.2 nB B.2.2.2.1 B.2.2.2.2).2.1, min A.2.2.2.1 B.2.2.2.1, (adX D dir A.2.2.1 A.2.2.2.1 A.2.2.2.2 nB B.2.2.2.1 B.2.2.2.2).2.2)
def prR (A B : Dm) : OR :=
  if ((A.2.1 = 0 ∧ A.2.2.2.2 = 0) ∧ B.2.1 = 1) ∨ (A.2.1 = 1 ∧ (B.2.1 = 0 ∧ B.2.2.2.2 = 0)) then .inl (iv A, 1) else
  if A.2.1 = 1 ∨ B.2.1 = 1 then .inl (inf A (decide (¬ A.2.2.1 = B.2.2.1)), 0) else
  .inr (decide (¬ A.2.2.1 = B.2.2.1), false, A.2.2.2.1 + B.2.2.2.1, A.2.2.2.1 + B.2.2.2.1, A.2.2.2.2 * B.2.2.2.2)
section ART
variable {h : ix_H} {Q : ix_O → ix_H → Prop} {S : Nat → AC} {a b c what cx cy dir : Nat} {da db dc dr : Dm} {nx ny nB : Bool} {ex ey wx wy : Int}
theorem isU.o {r : Nat} (u : isU S r) : ∃ (ng mo : Bool) (ex wi : Int) (c : Nat), S r = aC (uC r ng mo ex wi) ∧ S (r + 1) = aN c := u
/-- x.take(a), y.take(a) -/
theorem v_takeX (I : Inv h S) (L : Lay S) (A : RegD S a da) (q : ∀ h', Inv h' (va_up (va_up S 38 (aC (uC 38 da.2.2.1 false da.2.2.2.1 da.2.2.2.1))) 39 (aN da.2.2.2.2)) → Q (.inl none) h') : ix_M 96 [.ref 38, .ref a] h Q := by
  obtain ⟨n, m, e, w, c, X, XC⟩ := L.2.1
  have ha := A.1
  exact v_take (r := 38) I X XC A.2.1 A.2.2.1 A.2.2.2.z (by omega) (by omega) (by omega) q
theorem v_takeY (I : Inv h S) (L : Lay S) (A : RegD S a da) (q : ∀ h', Inv h' (va_up (va_up S 41 (aC (uC 41 da.2.2.1 false da.2.2.2.1 da.2.2.2.1))) 42 (aN da.2.2.2.2)) → Q (.inl none) h') : ix_M 96 [.ref 41, .ref a] h Q := by
  obtain ⟨n, m, e, w, c, X, XC⟩ := L.2.2.1
  have ha := A.1
  exact v_take (r := 41) I X XC A.2.1 A.2.2.1 A.2.2.2.z (by omega) (by omega) (by omega) q
theorem ag.w {l m : List Nat} {S T : Nat → AC} (g : ag l S T) (hm : ∀ r, r ∈ l → r ∈ m) : ag m S T := fun r hr => g r fun z => hr (hm r z)
theorem v_sum (I : Inv h S) (L : Lay S) (R : ResD S da) (A : RegD S a da) (B : RegD S b db) (hd : dir < 5) (q : ∀ h' S' v, Inv h' S' → Lay S' → ag arl S S' → Out S' da (smR (fD da.1) dir da db nB) v → Q (.inl (some v)) h') : ix_M 116 [.ref 34, .ref a, .ref b, .int (bI nB), .int (nI dir)] h Q := by
  obtain ⟨wn, AR⟩ := L.1
  have A2 := A.2.1
  have B2 := B.2.1
  have vA := A.2.2.2
  have vB := B.2.2.2
  have bA := vA.b
  have bB := vB.b
  have dA := vA.d
  have dB := vB.d
  unfold smR at q
  refine jx (pc' := 1) (L' := [_, _, _, _, _]) (st' := [_]) 1 rfl ?_
  refine jcv (pc' := 4) 78 [] [] (I.ob (r := a) A2) rfl rfl rfl rfl rfl rfl rfl rfl ?_
  refine v_isInfinite I A2 vA.2.1 (jk ?_)
  by_cases e1 : da.2.1 = 1
  · simp only [if_pos e1] at q
    refine jin (pc' := 7) 38 rfl rfl rfl rfl (by rw [bz_eq]; simp [e1]) ?_
    have t : ¬ (db.2.1 = 1 ∧ ¬ da.2.2.1 = nB) → ix_E 116 29 [some (.ref 34), some (.ref a), some (.ref b), some (.int (bI nB)), some (.int (nI dir))] [] h Q := by
      intro hn
      simp only [if_neg hn] at q
      refine jx (pc' := 31) (L' := [_, _, _, _, _]) (st' := [_, _]) 2 rfl ?_
      refine jgf (pc' := 34) (I.ob (r := a) A2) rfl rfl rfl rfl rfl ?_
      refine jcv (pc' := 37) 118 [_] [] (I.ob (r := 34) AR) rfl rfl rfl rfl rfl rfl rfl rfl ?_
      refine v_infinite I L R fun h' S' I' L' g R' => jk ?_
      refine jri rfl rfl ?_
      exact q _ _ _ I' L' (g.w (by decide)) ⟨R', (by decide : 0 < 32), rfl⟩
    refine jx (pc' := 8) (L' := [_, _, _, _, _]) (st' := [_]) 1 rfl ?_
    refine jcv (pc' := 11) 78 [] [] (I.ob (r := b) B2) rfl rfl rfl rfl rfl rfl rfl rfl ?_
    refine v_isInfinite I B2 vB.2.1 (jk ?_)
    by_cases e2 : db.2.1 = 1
    · skip
      refine jin (pc' := 14) 29 rfl rfl rfl rfl (by rw [bz_eq]; simp [e2]) ?_
      refine jx (pc' := 15) (L' := [_, _, _, _, _]) (st' := [_]) 1 rfl ?_
      refine jgf (pc' := 18) (I.ob (r := a) A2) rfl rfl rfl rfl rfl ?_
      refine jx (pc' := 19) (L' := [_, _, _, _, _]) (st' := [_, _]) 1 rfl ?_
      by_cases e3 : da.2.2.1 = nB
      · skip
        refine jct (pc' := 29) rfl rfl rfl (by rw [bc_eq]; exact decide_eq_true e3) ?_
        exact t (fun z => z.2 e3)
      · skip
        refine jcn (pc' := 22) 29 rfl rfl rfl rfl (by rw [bc_eq]; exact decide_eq_false e3) ?_
        have hc : db.2.1 = 1 ∧ ¬ da.2.2.1 = nB := ⟨e2, e3⟩
        simp only [if_pos hc] at q
        refine jx (pc' := 23) (L' := [_, _, _, _, _]) (st' := [_]) 1 rfl ?_
        refine jcv (pc' := 26) 117 [] [] (I.ob (r := 34) AR) rfl rfl rfl rfl rfl rfl rfl rfl ?_
        refine v_invalid I L R fun h' S' I' L' g R' => jk ?_
        refine jx (pc' := 37) (L' := [_, _, _, _, _]) (st' := [_]) 1 rfl ?_
        refine jri rfl rfl ?_
        exact q _ _ _ I' L' (g.w (by decide)) ⟨R', (by decide : 1 < 32), rfl⟩
    · skip
      refine jit (pc' := 29) rfl rfl rfl (by rw [bz_eq]; simp [e2]) ?_
      exact t (fun z => e2 z.1)
  · simp only [if_neg e1] at q
    refine jit (pc' := 38) rfl rfl rfl (by rw [bz_eq]; simp [e1]) ?_
    refine jx (pc' := 39) (L' := [_, _, _, _, _]) (st' := [_]) 1 rfl ?_
    refine jcv (pc' := 42) 78 [] [] (I.ob (r := b) B2) rfl rfl rfl rfl rfl rfl rfl rfl ?_
    refine v_isInfinite I B2 vB.2.1 (jk ?_)
    by_cases e2 : db.2.1 = 1
    · simp only [if_pos e2] at q
      refine jin (pc' := 45) 51 rfl rfl rfl rfl (by rw [bz_eq]; simp [e2]) ?_
      refine jx (pc' := 47) (L' := [_, _, _, _, _]) (st' := [_, _]) 2 rfl ?_
      refine jcv (pc' := 50) 118 [_] [] (I.ob (r := 34) AR) rfl rfl rfl rfl rfl rfl rfl rfl ?_
      refine v_infinite I L R fun h' S' I' L' g R' => jk ?_
      refine jri rfl rfl ?_
      exact q _ _ _ I' L' (g.w (by decide)) ⟨R', (by decide : 0 < 32), rfl⟩
    · simp only [if_neg e2] at q
      refine jit (pc' := 51) rfl rfl rfl (by rw [bz_eq]; simp [e2]) ?_
      obtain ⟨_, _, _, _, _, X0, XC0⟩ := L.2.1
      obtain ⟨_, _, _, _, _, Y0, YC0⟩ := L.2.2.1
      refine jx (pc' := 52) (L' := [_, _, _, _, _]) (st' := [_]) 1 rfl ?_
      refine jgf (pc' := 55) (I.ob (r := 34) AR) rfl rfl rfl rfl rfl ?_
      refine jx (pc' := 56) (L' := [_, _, _, _, _]) (st' := [_, _]) 1 rfl ?_
      refine jcv (pc' := 59) 96 [_] [] (I.ob (r := 38) X0) rfl rfl rfl rfl rfl rfl rfl rfl ?_
      refine v_takeX I L A fun _ I => jk ?_
      refine jx (pc' := 60) (L' := [_, _, _, _, _]) (st' := [_]) 1 rfl ?_
      refine jgf (pc' := 63) (I.ob (r := 34) AR) rfl rfl rfl rfl rfl ?_
      refine jx (pc' := 64) (L' := [_, _, _, _, _]) (st' := [_, _]) 1 rfl ?_
      refine jcv (pc' := 67) 96 [_] [] (I.ob (r := 41) Y0) rfl rfl rfl rfl rfl rfl rfl rfl ?_
      refine v_takeY I L.up38.up39 ((B.up (by decide)).up (by decide)) fun _ I => jk ?_
      refine jx (pc' := 68) (L' := [_, _, _, _, _]) (st' := [_]) 1 rfl ?_
      refine jgf (pc' := 71) (I.ob (r := 34) AR) rfl rfl rfl rfl rfl ?_
      refine jx (pc' := 72) (L' := [_, _, _, _, _]) (st' := [_, _]) 1 rfl ?_
      refine jpA (pc' := 75) (r := 41) I rfl rfl rfl rfl (Nat.le_of_ble_eq_true rfl) (by intro z; cases z) (nb _) (fb _) rfl fun _ I X_ => ?_
      refine jx (pc' := 78) (L' := [_, _, _, _, _]) (st' := [_, _]) 2 rfl ?_
      refine jcv (pc' := 81) 119 [_] [] (I.ob (r := 34) AR) rfl rfl rfl rfl rfl rfl rfl rfl ?_
      refine v_addToX I L.up38.up39.up41.up42.up41 R rfl rfl rfl rfl hd (by omega) (by omega) ⟨by omega, by omega⟩ ⟨by omega, by omega⟩ fun h' S' I' L' g X' XC' => jk ?_
      refine jx (pc' := 82) (L' := [_, _, _, _, _]) (st' := [_]) 1 rfl ?_
      refine jri rfl rfl ?_
      have hb := adX_b (D := fD da.1) (dir := dir) (nx := da.2.2.1) (ny := nB) (ex := da.2.2.2.1) (ey := db.2.2.2.1) (cx := da.2.2.2.2) (cy := db.2.2.2.2) (by omega) (by omega) (by omega)
      exact q _ _ _ I' L' ((((((ag_0 arl S).up (by decide)).up (by decide)).up (by decide)).up (by decide)).up (by decide) |>.tr g (by decide)) ⟨⟨g.at 35 (by decide) R.1, g.at 36 (by decide) R.2.1, R.2.2⟩, X', XC', ⟨b138 hb.1, by dsimp only; omega, by dsimp only; omega, by dsimp only; omega, by dsimp only; omega⟩, rfl⟩
/-- Arithmetic.multiplyIntoX -/
theorem v_multiplyIntoX (I : Inv h S) (L : Lay S) (A : RegD S a da) (B : RegD S b db) (q : ∀ h' S', Inv h' S' → Lay S' → ag [38, 39] S S' → S' 38 = aC (uC 38 (decide (¬ da.2.2.1 = db.2.2.1)) false (da.2.2.2.1 + db.2.2.2.1) (da.2.2.2.1 + db.2.2.2.1)) → S' 39 = aN (da.2.2.2.2 * db.2.2.2.2) → Q (.inl none) h') : ix_M 123 [.ref 34, .ref a, .ref b] h Q := by
  obtain ⟨wn, AR⟩ := L.1
  have A2 := A.2.1
  have B2 := B.2.1
  have vA := A.2.2.2
  have vB := B.2.2.2
  have bA := vA.b
  have bB := vB.b
  have ha := A.1
  have hb := B.1
  obtain ⟨n0, m0, e0, w0, c0, X, XC⟩ := L.2.1
  have t : ∀ n : Bool, n = decide (¬ da.2.2.1 = db.2.2.1) → ix_E 123 20 [some (.ref 34), some (.ref a), some (.ref b)] [.int (bI n), .ref 38] h Q := by
    intro n hn
    rw [← hn] at q
    refine jcv (pc' := 23) 97 [_] [] (I.ob (r := 38) X) rfl rfl rfl rfl rfl rfl rfl rfl ?_
    refine v_setZero (r := 38) I X XC fun _ I => jk ?_
    have A' : ∀ x y : AC, RegD (va_up (va_up S 38 x) 39 y) a da := fun x y => (A.up (by decide)).up (by decide)
    have B' : ∀ x y : AC, RegD (va_up (va_up S 38 x) 39 y) b db := fun x y => (B.up (by decide)).up (by decide)
    have A'' : ∀ x y z : AC, RegD (va_up (va_up (va_up S 38 x) 39 y) 39 z) a da := fun x y z => (A' x y).up (by decide)
    have B'' : ∀ x y z : AC, RegD (va_up (va_up (va_up S 38 x) 39 y) 39 z) b db := fun x y z => (B' x y).up (by decide)
    have X1 : va_up (va_up S 38 (aC (uC 38 n false e0 w0))) 39 (aN 0) 38 = aC (uC 38 n false e0 w0) := rfl
    refine jx (pc' := 24) (L' := [_, _, _]) (st' := [_]) 1 rfl ?_
    refine jgf (pc' := 27) (I.ob (r := 34) AR) rfl rfl rfl rfl rfl ?_
    refine jgf (pc' := 30) (I.ob (r := 38) X1) rfl rfl rfl rfl rfl ?_
    refine jx (pc' := 31) (L' := [_, _, _]) (st' := [_, _]) 1 rfl ?_
    refine jgf (pc' := 34) (I.ob (r := a) (A' _ _).2.1) rfl rfl rfl rfl rfl ?_
    refine jx (pc' := 35) (L' := [_, _, _]) (st' := [_, _, _]) 1 rfl ?_
    refine jgf (pc' := 38) (I.ob (r := b) (B' _ _).2.1) rfl rfl rfl rfl rfl ?_
    refine jcv (pc' := 41) 61 [_, _] [] (I.no (r := 39) rfl) rfl rfl rfl rfl rfl rfl rfl rfl ?_
    refine v_setProduct (c := 39) I rfl (A' _ _).2.2.1 (B' _ _).2.2.1 (by omega) (by omega) (Nat.lt_of_lt_of_le (Nat.mul_lt_mul'' vA.c vB.c) (by rw [← Nat.pow_add]; exact pl (by decide))) fun _ I => jk ?_
    refine jx (pc' := 42) (L' := [_, _, _]) (st' := [_]) 1 rfl ?_
    refine jgf (pc' := 45) (I.ob (r := 34) AR) rfl rfl rfl rfl rfl ?_
    refine jx (pc' := 46) (L' := [_, _, _]) (st' := [_, _]) 1 rfl ?_
    refine jgf (pc' := 49) (I.ob (r := a) (A'' _ _ _).2.1) rfl rfl rfl rfl rfl ?_
    refine jx (pc' := 50) (L' := [_, _, _]) (st' := [_, _, _]) 1 rfl ?_
    refine jgf (pc' := 53) (I.ob (r := b) (B'' _ _ _).2.1) rfl rfl rfl rfl rfl ?_
    refine jx (pc' := 55) (L' := [_, _, _]) (st' := [_, _]) 2 rfl ?_
    try simp (disch := omega) only [kz, kzl0, kzl1, kzb, kzs, zI_add, zI_sub, zI_neg, zI_mul, zL_i, zI_l, zL_add, zL_sub, zL_neg]
    refine jpA (pc' := 58) (r := 38) I X1 rfl rfl rfl (Nat.le_of_ble_eq_true rfl) (by intro z; cases z) rfl rfl rfl fun _ I X1 => ?_
    refine jx (pc' := 59) (L' := [_, _, _]) (st' := [_]) 1 rfl ?_
    refine jgf (pc' := 62) (I.ob (r := 34) AR) rfl rfl rfl rfl rfl ?_
    refine jx (pc' := 63) (L' := [_, _, _]) (st' := [_, _]) 1 rfl ?_
    refine jgf (pc' := 66) (I.ob (r := 34) AR) rfl rfl rfl rfl rfl ?_
    refine jgf (pc' := 69) (I.ob (r := 38) X1) rfl rfl rfl rfl rfl ?_
    refine jpA (pc' := 72) (r := 38) I X1 rfl rfl rfl (Nat.le_of_ble_eq_true rfl) (by intro z; cases z) rfl rfl rfl fun _ I X1 => ?_
    refine ix_qr _ rfl rfl rfl ?_
    exact q _ _ I L.up38.up39.up39.up38.up38 ((((((ag_0 _ S).up (by decide)).up (by decide)).up (by decide)).up (by decide)).up (by decide)) rfl rfl
  refine jx (pc' := 1) (L' := [_, _, _]) (st' := [_]) 1 rfl ?_
  refine jgf (pc' := 4) (I.ob (r := 34) AR) rfl rfl rfl rfl rfl ?_
  refine jx (pc' := 5) (L' := [_, _, _]) (st' := [_, _]) 1 rfl ?_
  refine jgf (pc' := 8) (I.ob (r := a) A2) rfl rfl rfl rfl rfl ?_
  refine jx (pc' := 9) (L' := [_, _, _]) (st' := [_, _, _]) 1 rfl ?_
  refine jgf (pc' := 12) (I.ob (r := b) B2) rfl rfl rfl rfl rfl ?_
  by_cases e : da.2.2.1 = db.2.2.1
  · skip
    refine jct (pc' := 19) rfl rfl rfl (by rw [bc_eq]; exact decide_eq_true e) ?_
    refine jx (pc' := 20) (L' := [_, _, _]) (st' := [.int (nI 0), _]) 1 rfl ?_
    exact t false (decide_eq_false (fun z => z e)).symm
  · skip
    refine jcn (pc' := 15) 19 rfl rfl rfl rfl (by rw [bc_eq]; exact decide_eq_false e) ?_
    refine jx (pc' := 20) (L' := [_, _, _]) (st' := [.int (nI 1), _]) 2 rfl ?_
    exact t true (decide_eq_true e).symm
end ART
