/-! ===== Arithmetic: root, ofTwo, ofOne ===== -/
noncomputable def op2 (what dir : Nat) (A B : Dm) : OR :=
  if what = 0 then smR (fD A.1) dir A B B.2.2.1 else if what = 1 then smR (fD A.1) dir A B (!B.2.2.1) else if what = 2 then prR A B else if what = 3 then raR A B else if what = 4 then reR A B else if what = 5 then .inl (qzR dir A B) else .inl (pkD what A B, 0)
noncomputable def o2R (what dir : Nat) (A B : Dm) : Dm × Nat :=
  if what = 10 then ((A.1, A.2.1, B.2.2.1, A.2.2.2.1, A.2.2.2.2), 0) else
  if 2 ≤ A.2.1 ∨ 2 ≤ B.2.1 then (if 6 ≤ what then pbN A B else (nq (nanP A B B), (nanS A B B).toNat)) else
  rdo dir A (op2 what dir A B)
noncomputable def o1R (what dir : Nat) (A : Dm) : Dm × Nat :=
  if what = 9 ∨ what = 10 then ((A.1, A.2.1, decide (what = 9) && !A.2.2.1, A.2.2.2.1, A.2.2.2.2), 0) else
  if 2 ≤ A.2.1 then (nq (nanP A A A), (nanS A A A).toNat) else
  if what = 0 then rdo dir A (roR A) else
  if what = 6 then ((mwR dir A).1, if (mwR dir A).2 then 16 else 0) else
  if what = 7 then (nxR A false, 0) else
  if what = 8 then (nxR A true, 0) else
  if what = 11 then (A, 0) else ((mwR (what - 1) A).1, 0)
section ART
variable {h : ix_H} {Q : ix_O → ix_H → Prop} {S : Nat → AC} {a b c what cx cy dir f p M : Nat} {da db dc dr : Dm} {m nx ny mo nB : Bool} {ex wx ey wy P : Int}
theorem sq_107 {N : Nat} (h : N < 10 ^ 107) : sq N < 10 ^ 54 := by
  have q1 := sq_1 N
  rcases Nat.lt_or_ge (sq N) (10 ^ 54) with z | z
  · exact z
  · have := Nat.mul_le_mul z z
    rw [← Nat.pow_add] at this
    have : (10 : Nat) ^ 107 < 10 ^ (54 + 54) := plt (by decide)
    omega
theorem v_root (I : Inv h S) (L : Lay S) (R : ResD S da) (A : RegD S a da) (hA : da.2.1 < 2) (q : ∀ h' S' v, Inv h' S' → Lay S' → ag arl S S' → Out S' da (roR da) v → Q (.inl (some v)) h') : ix_M 133 [.ref 34, .ref a] h Q := by
  obtain ⟨wn, AR⟩ := L.1
  have A2 := A.2.1
  have A3 := A.2.2.1
  have vA := A.2.2.2
  have bA := vA.b
  have dA := vA.d
  obtain ⟨f1, f2, f3, f4, f5, f6, f7⟩ := f3b vA.1
  unfold roR at q
  have t : ¬ (da.2.2.1 = true ∧ ¬ (da.2.1 = 0 ∧ da.2.2.2.2 = 0)) → ix_E 133 19 [some (.ref 34), some (.ref a)] [] h Q := by
    intro n1
    simp only [if_neg n1] at q
    refine jx (pc' := 20) (L' := [_, _]) (st' := [_]) 1 rfl ?_
    refine jcv (pc' := 23) 78 [] [] (I.ob (r := a) A2) rfl rfl rfl rfl rfl rfl rfl rfl ?_
    refine v_isInfinite I A2 vA.2.1 (jk ?_)
    by_cases e1 : da.2.1 = 1
    · simp only [if_pos e1] at q
      refine jin (pc' := 26) 28 rfl rfl rfl rfl (by rw [bz_eq]; simp [e1]) ?_
      refine jx (pc' := 27) (L' := [_, _]) (st' := [.int (zI 0)]) 1 rfl ?_
      refine jri rfl rfl ?_
      exact q _ _ _ I L (ag_0 _ S) ⟨R, (by decide : 0 < 32), rfl⟩
    · simp only [if_neg e1] at q
      refine jit (pc' := 28) rfl rfl rfl (by rw [bz_eq]; simp [e1]) ?_
      obtain ⟨xn, xm, xe, xw, xc, X0, XC0⟩ := L.2.1
      refine jx (pc' := 29) (L' := [_, _]) (st' := [_]) 1 rfl ?_
      refine jgf (pc' := 32) (I.ob (r := 34) AR) rfl rfl rfl rfl rfl ?_
      refine jx (pc' := 33) (L' := [_, _]) (st' := [_, _]) 1 rfl ?_
      refine jcv (pc' := 36) 96 [_] [] (I.ob (r := 38) X0) rfl rfl rfl rfl rfl rfl rfl rfl ?_
      refine v_takeX I L A fun _ I => jk ?_
      have A4 : RegD (va_up (va_up S 38 (aC (uC 38 da.2.2.1 false da.2.2.2.1 da.2.2.2.1))) 39 (aN da.2.2.2.2)) a da := (A.up (by decide)).up (by decide)
      have X4 : va_up (va_up S 38 (aC (uC 38 da.2.2.1 false da.2.2.2.1 da.2.2.2.1))) 39 (aN da.2.2.2.2) 38 = aC (uC 38 da.2.2.1 false da.2.2.2.1 da.2.2.2.1) := rfl
      refine jx (pc' := 37) (L' := [_, _]) (st' := [_]) 1 rfl ?_
      refine jgf (pc' := 40) (I.ob (r := 34) AR) rfl rfl rfl rfl rfl ?_
      refine jx (pc' := 41) (L' := [_, _]) (st' := [_, _]) 1 rfl ?_
      refine jgf (pc' := 44) (I.ob (r := a) A4.2.1) rfl rfl rfl rfl rfl ?_
      refine jx (pc' := 45) (L' := [_, _]) (st' := [.int (zI 2), _, _]) 1 rfl ?_
      refine jcs (pc' := 48) 276 [_, .int (zI 2)] [_] rfl rfl rfl rfl rfl rfl rfl rfl ?_
      refine c_floorDiv2 ⟨by omega, by omega⟩ (jk ?_)
      refine jx (pc' := 49) (L' := [_, _]) (st' := [_, _]) 1 rfl ?_
      try simp (disch := omega) only [kz, kzl0, kzl1, kzb, kzs, zI_add, zI_sub, zI_neg, zI_mul, zL_i, zI_l, zL_add, zL_sub, zL_neg]
      refine jpA (pc' := 52) (r := 38) I X4 rfl rfl rfl (Nat.le_of_ble_eq_true rfl) (by intro z; cases z) rfl rfl rfl fun _ I X4 => ?_
      have A5 : RegD (va_up (va_up (va_up S 38 (aC (uC 38 da.2.2.1 false da.2.2.2.1 da.2.2.2.1))) 39 (aN da.2.2.2.2)) 38 (aC (uC 38 da.2.2.1 false da.2.2.2.1 (da.2.2.2.1 / 2)))) a da := A4.up (by decide)
      refine jx (pc' := 53) (L' := [_, _]) (st' := [_]) 1 rfl ?_
      refine jcv (pc' := 56) 80 [] [] (I.ob (r := a) A5.2.1) rfl rfl rfl rfl rfl rfl rfl rfl ?_
      refine v_isZero I A5.2.1 A5.2.2.1 vA.2.1 (jk ?_)
      by_cases e2 : da.2.1 = 0 ∧ da.2.2.2.2 = 0
      · simp only [if_pos e2] at q
        refine jit (pc' := 63) rfl rfl rfl (by rw [bz_ne]; simp [e2]) ?_
        refine jx (pc' := 64) (L' := [_, _]) (st' := [.int (zI (-1))]) 1 rfl ?_
        refine jri rfl rfl ?_
        exact q _ _ _ I L.up38.up39.up38 ((((ag_0 _ S).up (by decide)).up (by decide)).up (by decide)) ⟨R, rfl, rfl, ⟨b34 vA.c, by dsimp only; omega, by dsimp only; omega, by dsimp only; omega, by dsimp only; omega⟩, rfl⟩
      · simp only [if_neg e2] at q
        have hc : 0 < da.2.2.2.2 := by omega
        refine jin (pc' := 59) 63 rfl rfl rfl rfl (by rw [bz_ne]; simp; omega) ?_
        refine jx (pc' := 60) (L' := [_, _]) (st' := [_]) 1 rfl ?_
        refine jcv (pc' := 63) 134 [] [] (I.ob (r := 34) AR) rfl rfl rfl rfl rfl rfl rfl rfl ?_
        refine v_rootOfX (dr := da) I L.up38.up39.up38 R rfl rfl hc (by omega) ⟨by omega, by omega⟩ fun h' S' I' L' g X' XC' => jk ?_
        refine jx (pc' := 64) (L' := [_, _]) (st' := [.int (zI (-1))]) 1 rfl ?_
        refine jri rfl rfl ?_
        have hPd : rtP (fD da.1) da.2.2.2.1 da.2.2.2.2 = if ¬ (da.2.2.2.1 - (2 * ((fD da.1 : Int) + 2) - dgs da.2.2.2.2)) % 2 = 0 then 2 * ((fD da.1 : Int) + 2) - dgs da.2.2.2.2 + 1 else 2 * ((fD da.1 : Int) + 2) - dgs da.2.2.2.2 := rfl
        have hPb : -40 ≤ rtP (fD da.1) da.2.2.2.1 da.2.2.2.2 ∧ rtP (fD da.1) da.2.2.2.1 da.2.2.2.2 + dgs da.2.2.2.2 ≤ 73 := by rw [hPd]; split <;> omega
        have hN1 : rtN (fD da.1) da.2.2.2.1 da.2.2.2.2 < 10 ^ 107 := Nat.lt_of_lt_of_le (dgs_sh _ _) (pl (by omega))
        have hs := Nat.lt_trans (sq_107 hN1) (plt (show 54 < 138 by decide))
        exact q _ _ _ I' L' (((((ag_0 arl S).up (by decide)).up (by decide)).up (by decide)).tr g (by decide)) ⟨⟨g.at 35 (by decide) R.1, g.at 36 (by decide) R.2.1, R.2.2⟩, X', XC', ⟨b138 hs, by unfold rtX; dsimp only; omega, by unfold rtX; dsimp only; omega, by dsimp only; omega, by dsimp only; omega⟩, rfl⟩
  refine jx (pc' := 1) (L' := [_, _]) (st' := [_]) 1 rfl ?_
  refine jgf (pc' := 4) (I.ob (r := a) A2) rfl rfl rfl rfl rfl ?_
  cases hng : da.2.2.1 with
  | true =>
    refine jin (pc' := 7) 19 rfl rfl rfl rfl (rfl) ?_
    refine jx (pc' := 8) (L' := [_, _]) (st' := [_]) 1 rfl ?_
    refine jcv (pc' := 11) 80 [] [] (I.ob (r := a) A2) rfl rfl rfl rfl rfl rfl rfl rfl ?_
    refine v_isZero I A2 A3 vA.2.1 (jk ?_)
    by_cases e2 : da.2.1 = 0 ∧ da.2.2.2.2 = 0
    · skip
      refine jit (pc' := 19) rfl rfl rfl (by rw [bz_ne]; simp [e2]) ?_
      exact t (fun z => z.2 e2)
    · have n1 : da.2.2.1 = true ∧ ¬ (da.2.1 = 0 ∧ da.2.2.2.2 = 0) := ⟨hng, e2⟩
      simp only [if_pos n1] at q
      refine jin (pc' := 14) 19 rfl rfl rfl rfl (by rw [bz_ne]; simp; omega) ?_
      refine jx (pc' := 15) (L' := [_, _]) (st' := [_]) 1 rfl ?_
      refine jcv (pc' := 18) 117 [] [] (I.ob (r := 34) AR) rfl rfl rfl rfl rfl rfl rfl rfl ?_
      refine v_invalid I L R fun h' S' I' L' g R' => jk ?_
      refine jri rfl rfl ?_
      exact q _ _ _ I' L' (g.w (by decide)) ⟨R', (by decide : 1 < 32), rfl⟩
  | false =>
    refine jit (pc' := 19) rfl rfl rfl (rfl) ?_
    exact t (fun z => by rw [hng] at z; exact absurd z.1 (by decide))
/-- Arithmetic.ofTwo -/
theorem v_ofTwo (I0 : Inv h S) (L0 : Lay S) (R0 : ResD S dr) (A0 : RegD S a da) (B0 : RegD S b db) (hd : dir < 5) (hw : what < 11) (q0 : ∀ h' S', Inv h' S' → Lay S' → ag arl S S' → ResD S' (o2R what dir da db).1 → Q (.inl (some (.int (nI (o2R what dir da db).2)))) h') : ix_M 113 [.ref 34, .int (nI what), .ref a, .ref b, .int (nI dir)] h Q := by
  obtain ⟨wn, AR0⟩ := L0.1
  have I := I0
  refine jx (pc' := 1) (L' := [_, _, _, _, _, _]) (st' := [_]) 1 rfl ?_
  refine jgf (pc' := 4) (I.ob (r := 34) AR0) rfl rfl rfl rfl rfl ?_
  refine jx (pc' := 5) (L' := [_, _, _, _, _, _]) (st' := [_, _]) 1 rfl ?_
  refine jcv (pc' := 8) 85 [_] [] (I.ob (r := 35) R0.1) rfl rfl rfl rfl rfl rfl rfl rfl ?_
  refine v_copyR I0 R0 A0 fun k I R => jk ?_
  have g0 : ag arl S (va_up (va_up S 35 (aC (dC 35 da.1 da.2.1 da.2.2.1 da.2.2.2.1))) 36 (aN da.2.2.2.2)) := ((ag_0 arl S).up (by decide)).up (by decide)
  have L : Lay (va_up (va_up S 35 (aC (dC 35 da.1 da.2.1 da.2.2.1 da.2.2.2.1))) 36 (aN da.2.2.2.2)) := L0.up35.up36
  have A : RegD (va_up (va_up S 35 (aC (dC 35 da.1 da.2.1 da.2.2.1 da.2.2.2.1))) 36 (aN da.2.2.2.2)) a da := (A0.up (by decide)).up (by decide)
  have B : RegD (va_up (va_up S 35 (aC (dC 35 da.1 da.2.1 da.2.2.1 da.2.2.2.1))) 36 (aN da.2.2.2.2)) b db := (B0.up (by decide)).up (by decide)
  have q : ∀ h' S', Inv h' S' → Lay S' → ag arl (va_up (va_up S 35 (aC (dC 35 da.1 da.2.1 da.2.2.1 da.2.2.2.1))) 36 (aN da.2.2.2.2)) S' → ResD S' (o2R what dir da db).1 → Q (.inl (some (.int (nI (o2R what dir da db).2)))) h' := fun h' S' I' L' g R' => q0 h' S' I' L' (g0.tr g (fun _ z => z)) R'
  generalize (va_up (va_up S 35 (aC (dC 35 da.1 da.2.1 da.2.2.1 da.2.2.2.1))) 36 (aN da.2.2.2.2)) = T at *
  obtain ⟨wn, AR⟩ := L.1
  have A2 := A.2.1
  have B2 := B.2.1
  have vA := A.2.2.2
  have vB := B.2.2.2
  have R1 := R.1
  unfold o2R at q
  refine jx (pc' := 11) (L' := [_, _, _, _, _, _]) (st' := [.int (nI 10), _]) 2 rfl ?_
  by_cases h10 : what = 10
  · simp only [if_pos h10] at q
    refine jcn (pc' := 14) 27 rfl rfl rfl rfl (by rw [cc_ne (by omega) (by omega)]; exact decide_eq_false (by omega)) ?_
    refine jx (pc' := 15) (L' := [_, _, _, _, _, _]) (st' := [_]) 1 rfl ?_
    refine jgf (pc' := 18) (I.ob (r := 34) AR) rfl rfl rfl rfl rfl ?_
    refine jx (pc' := 19) (L' := [_, _, _, _, _, _]) (st' := [_, _]) 1 rfl ?_
    refine jgf (pc' := 22) (I.ob (r := b) B2) rfl rfl rfl rfl rfl ?_
    refine jpA (pc' := 25) (r := 35) I R1 rfl rfl rfl (Nat.le_of_ble_eq_true rfl) (by intro z; cases z) (nb _) (fb _) rfl fun _ I R1 => ?_
    refine jx (pc' := 26) (L' := [_, _, _, _, _, _]) (st' := [.int (nI 0)]) 1 rfl ?_
    refine jri rfl rfl ?_
    exact q _ _ I L.up35 ((ag_0 _ T).up (by decide)) ⟨rfl, R.2.1, R.2.2⟩
  · simp only [if_neg h10] at q
    have tn : (2 ≤ da.2.1 ∨ 2 ≤ db.2.1) → ix_E 113 41 [some (.ref 34), some (.int (nI what)), some (.ref a), some (.ref b), some (.int (nI dir)), none] [] k Q := by
      intro hn
      simp only [if_pos hn] at q
      refine jx (pc' := 44) (L' := [_, _, _, _, _, _]) (st' := [.int (nI 6), _]) 2 rfl ?_
      by_cases h6 : 6 ≤ what
      · simp only [if_pos h6] at q
        refine jcn (pc' := 47) 56 rfl rfl rfl rfl (by rw [cc_lt (by omega) (by omega)]; exact decide_eq_false (by omega)) ?_
        refine jx (pc' := 50) (L' := [_, _, _, _, _, _]) (st' := [_, _, _]) 3 rfl ?_
        refine jcv (pc' := 53) 114 [_, _] [] (I.ob (r := 34) AR) rfl rfl rfl rfl rfl rfl rfl rfl ?_
        refine v_pickBesideNaN I L R A B fun h' S' I' L' g R' => jk ?_
        refine jx (pc' := 63) (L' := [_, _, _, _, _, _]) (st' := [_]) 1 rfl ?_
        refine jri rfl rfl ?_
        exact q _ _ I' L' (g.w (by decide)) R'
      · simp only [if_neg h6] at q
        refine jct (pc' := 56) rfl rfl rfl (by rw [cc_lt (by omega) (by omega)]; exact decide_eq_true (by omega)) ?_
        refine jx (pc' := 60) (L' := [_, _, _, _, _, _]) (st' := [_, _, _, _]) 4 rfl ?_
        refine jcv (pc' := 63) 115 [_, _, _] [] (I.ob (r := 34) AR) rfl rfl rfl rfl rfl rfl rfl rfl ?_
        refine v_passNaN I L R A B B fun h' S' I' L' g R' => jk ?_
        refine jri rfl rfl ?_
        exact q _ _ I' L' (g.w (by decide)) R'
    have tf : ¬ (2 ≤ da.2.1 ∨ 2 ≤ db.2.1) → ∀ (h1 : ix_H) (T1 : Nat → AC) (v : Value), Inv h1 T1 → Lay T1 → ag arl T T1 → Out T1 da (op2 what dir da db) v → ix_E 113 201 [some (.ref 34), some (.int (nI what)), some (.ref a), some (.ref b), some (.int (nI dir)), some v] [] h1 Q := by
      intro hn h1 T1 v I L g o
      simp only [if_neg hn] at q
      obtain ⟨wn, AR⟩ := L.1
      cases hop : op2 what dir da db with
      | inl x =>
        rw [hop] at o q
        obtain ⟨o1, o2, o3⟩ := o
        subst o3
        refine jx (pc' := 204) (L' := [_, _, _, _, _, _]) (st' := [_, _]) 2 rfl ?_
        refine jct (pc' := 223) rfl rfl rfl (by rw [nz, show Int32.ofInt (-1) = zI (-1) from rfl, zc_ne ⟨by omega, by omega⟩ ⟨by decide, by decide⟩]; exact decide_eq_true (by omega)) ?_
        refine jx (pc' := 225) (L' := [_, _, _, _, _, _]) (st' := [_]) 1 rfl ?_
        refine jri rfl rfl ?_
        exact q _ _ I L g o1
      | inr u =>
        rw [hop] at o q
        obtain ⟨o1, o2, o3, o4, o5⟩ := o
        subst o5
        refine jx (pc' := 204) (L' := [_, _, _, _, _, _]) (st' := [_, _]) 2 rfl ?_
        refine jcn (pc' := 207) 223 rfl rfl rfl rfl (by decide) ?_
        refine jx (pc' := 208) (L' := [_, _, _, _, _, _]) (st' := [_]) 1 rfl ?_
        refine jgf (pc' := 211) (I.ob (r := 34) AR) rfl rfl rfl rfl rfl ?_
        refine jx (pc' := 214) (L' := [_, _, _, _, _, _]) (st' := [_, _, _]) 2 rfl ?_
        refine jgf (pc' := 217) (I.ob (r := 34) AR) rfl rfl rfl rfl rfl ?_
        refine jcs (pc' := 220) 103 [_, _, _] [] rfl rfl rfl rfl rfl rfl rfl rfl ?_
        refine v_roundR I L o1 o2 o3 o4 hd fun h' S' I' L' g' R' => jk ?_
        refine jx (pc' := 225) (L' := [_, _, _, _, _, _]) (st' := [_]) 1 rfl ?_
        refine jri rfl rfl ?_
        exact q _ _ I' L' (g.tr g' (fun _ z => z)) R'
    have tv : ∀ (o : OR) (v : Value) (T1 : Nat → AC), Out T1 da o v → ∃ x : Int32, v = .int x := fun o v T1 ho => by
      cases o with
      | inl x => exact ⟨_, ho.2.2⟩
      | inr u => exact ⟨_, ho.2.2.2.2⟩
    have ts : ¬ (2 ≤ da.2.1 ∨ 2 ≤ db.2.1) → ix_E 113 64 [some (.ref 34), some (.int (nI what)), some (.ref a), some (.ref b), some (.int (nI dir)), none] [] k Q := by
      intro hn
      have tf := tf hn
      have hA : da.2.1 < 2 := by omega
      have hB : db.2.1 < 2 := by omega
      unfold op2 at tf
      have hc : what = 0 ∨ what = 1 ∨ what = 2 ∨ what = 3 ∨ what = 4 ∨ what = 5 ∨ (6 ≤ what ∧ what ≤ 9) := by omega
      rcases hc with rfl | rfl | rfl | rfl | rfl | rfl | hw
      · skip
        refine jx (pc' := 65) (L' := [_, _, _, _, _, _]) (st' := [_]) 1 rfl ?_
        refine jx (pc' := 104) (L' := [_, _, _, _, _, _]) (st' := []) 1 rfl ?_
        refine jx (pc' := 108) (L' := [_, _, _, _, _, _]) (st' := [_, _, _, _]) 4 rfl ?_
        refine jgf (pc' := 111) (I.ob (r := b) B2) rfl rfl rfl rfl rfl ?_
        refine jx (pc' := 113) (L' := [_, _, _, _, _, _]) (st' := [_, _, _, _, _]) 1 rfl ?_
        refine jcv (pc' := 116) 116 [_, _, _, _] [] (I.ob (r := 34) AR) rfl rfl rfl rfl rfl rfl rfl rfl ?_
        refine v_sum I L R A B hd fun h' S' v I' L' g o => jk ?_
        obtain ⟨x, rfl⟩ := tv _ _ _ o
        refine jx (pc' := 201) (L' := [_, _, _, _, _, _]) (st' := []) 2 rfl ?_
        exact tf _ _ _ I' L' g o
      · skip
        refine jx (pc' := 65) (L' := [_, _, _, _, _, _]) (st' := [_]) 1 rfl ?_
        refine jx (pc' := 121) (L' := [_, _, _, _, _, _]) (st' := []) 1 rfl ?_
        refine jx (pc' := 125) (L' := [_, _, _, _, _, _]) (st' := [_, _, _, _]) 4 rfl ?_
        refine jgf (pc' := 128) (I.ob (r := b) B2) rfl rfl rfl rfl rfl ?_
        have o1 : ∀ n : Bool, n = !db.2.2.1 → ix_E 113 136 [some (.ref 34), some (.int (nI 1)), some (.ref a), some (.ref b), some (.int (nI dir)), none] [.int (bI n), .ref b, .ref a, .ref 34] k Q := by
          intro n hn'
          refine jx (pc' := 138) (L' := [_, _, _, _, _, _]) (st' := [_, _, _, _, _]) 1 rfl ?_
          refine jcv (pc' := 141) 116 [.ref a, .ref b, .int (bI n), .int (nI dir)] [] (I.ob (r := 34) AR) rfl rfl rfl rfl rfl rfl rfl rfl ?_
          refine v_sum I L R A B hd fun h' S' v I' L' g o => jk ?_
          obtain ⟨x, rfl⟩ := tv _ _ _ o
          refine jx (pc' := 201) (L' := [_, _, _, _, _, _]) (st' := []) 2 rfl ?_
          rw [hn'] at o
          exact tf _ _ _ I' L' g o
        cases hb : db.2.2.1 with
        | true =>
          refine jit (pc' := 135) rfl rfl rfl (rfl) ?_
          refine jx (pc' := 136) (L' := [_, _, _, _, _, _]) (st' := [.int (nI 0), _, _, _]) 1 rfl ?_
          exact o1 false (by rw [hb]; rfl)
        | false =>
          refine jin (pc' := 131) 135 rfl rfl rfl rfl (rfl) ?_
          refine jx (pc' := 136) (L' := [_, _, _, _, _, _]) (st' := [.int (nI 1), _, _, _]) 2 rfl ?_
          exact o1 true (by rw [hb]; rfl)
      · skip
        refine jx (pc' := 65) (L' := [_, _, _, _, _, _]) (st' := [_]) 1 rfl ?_
        refine jx (pc' := 146) (L' := [_, _, _, _, _, _]) (st' := []) 1 rfl ?_
        refine jx (pc' := 149) (L' := [_, _, _, _, _, _]) (st' := [_, _, _]) 3 rfl ?_
        refine jcv (pc' := 152) 122 [_, _] [] (I.ob (r := 34) AR) rfl rfl rfl rfl rfl rfl rfl rfl ?_
        refine v_product I L R A B fun h' S' v I' L' g o => jk ?_
        obtain ⟨x, rfl⟩ := tv _ _ _ o
        refine jx (pc' := 201) (L' := [_, _, _, _, _, _]) (st' := []) 2 rfl ?_
        exact tf _ _ _ I' L' g o
      · skip
        refine jx (pc' := 65) (L' := [_, _, _, _, _, _]) (st' := [_]) 1 rfl ?_
        refine jx (pc' := 157) (L' := [_, _, _, _, _, _]) (st' := []) 1 rfl ?_
        refine jx (pc' := 160) (L' := [_, _, _, _, _, _]) (st' := [_, _, _]) 3 rfl ?_
        refine jcv (pc' := 163) 124 [_, _] [] (I.ob (r := 34) AR) rfl rfl rfl rfl rfl rfl rfl rfl ?_
        refine v_ratio I L R A B hA hB fun h' S' v I' L' g o => jk ?_
        obtain ⟨x, rfl⟩ := tv _ _ _ o
        refine jx (pc' := 201) (L' := [_, _, _, _, _, _]) (st' := []) 2 rfl ?_
        exact tf _ _ _ I' L' g o
      · skip
        refine jx (pc' := 65) (L' := [_, _, _, _, _, _]) (st' := [_]) 1 rfl ?_
        refine jx (pc' := 168) (L' := [_, _, _, _, _, _]) (st' := []) 1 rfl ?_
        refine jx (pc' := 171) (L' := [_, _, _, _, _, _]) (st' := [_, _, _]) 3 rfl ?_
        refine jcv (pc' := 174) 126 [_, _] [] (I.ob (r := 34) AR) rfl rfl rfl rfl rfl rfl rfl rfl ?_
        refine v_remainder I L R A B hA hB fun h' S' v I' L' g o => jk ?_
        obtain ⟨x, rfl⟩ := tv _ _ _ o
        refine jx (pc' := 201) (L' := [_, _, _, _, _, _]) (st' := []) 2 rfl ?_
        exact tf _ _ _ I' L' g o
      · skip
        refine jx (pc' := 65) (L' := [_, _, _, _, _, _]) (st' := [_]) 1 rfl ?_
        refine jx (pc' := 179) (L' := [_, _, _, _, _, _]) (st' := []) 1 rfl ?_
        refine jx (pc' := 184) (L' := [_, _, _, _, _, _]) (st' := [_, _, _, _]) 4 rfl ?_
        refine jcv (pc' := 187) 129 [_, _, _] [] (I.ob (r := 34) AR) rfl rfl rfl rfl rfl rfl rfl rfl ?_
        refine v_quantized I L R A B hd hA hB fun h' S' v I' L' g o => jk ?_
        obtain ⟨x, rfl⟩ := tv _ _ _ o
        refine jx (pc' := 201) (L' := [_, _, _, _, _, _]) (st' := []) 2 rfl ?_
        exact tf _ _ _ I' L' g o
      · rw [if_neg (by omega), if_neg (by omega), if_neg (by omega), if_neg (by omega), if_neg (by omega), if_neg (by omega)] at tf
        refine jx (pc' := 65) (L' := [_, _, _, _, _, _]) (st' := [_]) 1 rfl ?_
        refine jx1 (pc' := 192) (L' := [some (.ref 34), some (.int (nI what)), some (.ref a), some (.ref b), some (.int (nI dir)), none]) (st' := []) (h' := k) ?_ ?_
        · rw [ix_s1_of (i := .tableswitch 127 0 5 #[39, 56, 81, 92, 103, 114]) rfl rfl rfl rfl]
          simp only [ix_x1, ix_x0, ix_sw, nI_toInt (show what < 2 ^ 31 by omega)]
          rw [if_pos (by omega)]
          rfl
        refine jx (pc' := 196) (L' := [_, _, _, _, _, _]) (st' := [_, _, _, _]) 4 rfl ?_
        refine jcv (pc' := 199) 130 [_, _, _] [] (I.ob (r := 34) AR) rfl rfl rfl rfl rfl rfl rfl rfl ?_
        refine v_pick I L R A B hA hB hw fun h' S' I' L' g R' => jk ?_
        refine jx (pc' := 201) (L' := [_, _, _, _, _, _]) (st' := []) 1 rfl ?_
        exact tf _ _ _ I' L' (g.w (by decide)) ⟨R', (by decide : 0 < 32), rfl⟩
    refine jct (pc' := 27) rfl rfl rfl (by rw [cc_ne (by omega) (by omega)]; exact decide_eq_true (by omega)) ?_
    refine jx (pc' := 28) (L' := [_, _, _, _, _, _]) (st' := [_]) 1 rfl ?_
    refine jcv (pc' := 31) 79 [] [] (I.ob (r := a) A2) rfl rfl rfl rfl rfl rfl rfl rfl ?_
    refine v_isNaN I A2 vA.2.1 (jk ?_)
    by_cases e1 : 2 ≤ da.2.1
    · skip
      refine jit (pc' := 41) rfl rfl rfl (by rw [bz_ne]; simp [e1]) ?_
      exact tn (Or.inl e1)
    · skip
      refine jin (pc' := 34) 41 rfl rfl rfl rfl (by rw [bz_ne]; simp [e1]) ?_
      refine jx (pc' := 35) (L' := [_, _, _, _, _, _]) (st' := [_]) 1 rfl ?_
      refine jcv (pc' := 38) 79 [] [] (I.ob (r := b) B2) rfl rfl rfl rfl rfl rfl rfl rfl ?_
      refine v_isNaN I B2 vB.2.1 (jk ?_)
      by_cases e2 : 2 ≤ db.2.1
      · skip
        refine jin (pc' := 41) 64 rfl rfl rfl rfl (by rw [bz_eq]; simp [e2]) ?_
        exact tn (Or.inr e2)
      · skip
        refine jit (pc' := 64) rfl rfl rfl (by rw [bz_eq]; simp [e2]) ?_
        exact ts (fun z => z.elim e1 e2)
end ART
