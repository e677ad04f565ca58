/-! ===== Arithmetic: divideXBy, ratio ===== -/
theorem Lay.agd {S T : Nat → AC} {rr : Nat} (L : Lay S) (g : ag [45, 46, 52, rr] S T) (r1 : isR T 45) (r2 : isR T 46) (q : isN T 52) (m : isN T rr) (hr : rr = 39 ∨ rr = 50 ∨ rr = 56) : Lay T := by
  obtain ⟨⟨wn, a⟩, ⟨xn, xm, xe, xw, xc, x1, x2⟩, ⟨n, m', e, w, c, y1, y2⟩, d, _, _, cm, ⟨v1, n48⟩, ⟨v2, n50⟩, ⟨v3, n52⟩, ⟨v4, n54⟩, ⟨v5, n56⟩⟩ := L
  have k : ∀ r : Nat, ¬ (r = 45 ∨ r = 46 ∨ r = 52 ∨ r = 39 ∨ r = 50 ∨ r = 56) → r ∉ [45, 46, 52, rr] := fun r hr z => by
    simp at z
    omega
  refine ⟨⟨wn, g.at 34 (k _ (by omega)) a⟩, ?_, ⟨n, m', e, w, c, g.at 41 (k _ (by omega)) y1, g.at 42 (k _ (by omega)) y2⟩, g.at 44 (k _ (by omega)) d, r1, r2, g.at 47 (k _ (by omega)) cm, ⟨v1, g.at 48 (k _ (by omega)) n48⟩, ?_, q, ⟨v4, g.at 54 (k _ (by omega)) n54⟩, ?_⟩
  · by_cases e39 : rr = 39
    · subst e39
      obtain ⟨mv, hm⟩ := m
      exact ⟨xn, xm, xe, xw, mv, g.at 38 (k _ (by omega)) x1, hm⟩
    · exact ⟨xn, xm, xe, xw, xc, g.at 38 (k _ (by omega)) x1, g.at 39 (by simp; omega) x2⟩
  · by_cases e50 : rr = 50
    · subst e50; exact m
    · exact ⟨v2, g.at 50 (by simp; omega) n50⟩
  · by_cases e56 : rr = 56
    · subst e56; exact m
    · exact ⟨v5, g.at 56 (by simp; omega) n56⟩
noncomputable def dvP (D cx cb : Nat) : Int := (D : Int) + 3 + dgs cb - dgs cx
noncomputable def dvX (D : Nat) (ex : Int) (cx : Nat) (eb : Int) (cb : Nat) : Bool × Int × Nat := (decide (¬ cx * 10 ^ (dvP D cx cb).toNat % cb = 0), ex - dvP D cx cb - eb, cx * 10 ^ (dvP D cx cb).toNat / cb)
noncomputable def raR (A B : Dm) : OR :=
  if ((A.2.1 = 0 ∧ A.2.2.2.2 = 0) ∧ (B.2.1 = 0 ∧ B.2.2.2.2 = 0)) ∨ (A.2.1 = 1 ∧ B.2.1 = 1) then .inl (iv A, 1) else
  if A.2.1 = 1 ∨ (B.2.1 = 0 ∧ B.2.2.2.2 = 0) then .inl (inf A (xo A B), if A.2.1 = 1 then 0 else 2) else
  if B.2.1 = 1 then .inr (xo A B, false, A.2.2.2.1, -(fB A.1 : Int), 0) else
  if A.2.1 = 0 ∧ A.2.2.2.2 = 0 then .inr (xo A B, false, A.2.2.2.1, A.2.2.2.1 - B.2.2.2.1, A.2.2.2.2) else
  .inr (xo A B, (dvX (fD B.1) A.2.2.2.1 A.2.2.2.2 B.2.2.2.1 B.2.2.2.2).1, (dvX (fD B.1) A.2.2.2.1 A.2.2.2.2 B.2.2.2.1 B.2.2.2.2).2.1, A.2.2.2.1 - B.2.2.2.1, (dvX (fD B.1) A.2.2.2.1 A.2.2.2.2 B.2.2.2.1 B.2.2.2.2).2.2)
section ART
variable {h : ix_H} {Q : ix_O → ix_H → Prop} {S : Nat → AC} {a b c what cx cy dir f : Nat} {da db dc dr : Dm} {m nx ny nB : Bool} {ex wx : Int}
theorem v_divideXBy (I : Inv h S) (L : Lay S) (X : S 38 = aC (uC 38 nx false ex wx)) (XC : S 39 = aN cx) (B : RegD S b db) (hcb : 0 < db.2.2.2.2) (hd : dgs cx ≤ 34) (he : -100000 ≤ ex ∧ ex ≤ 100000) (q : ∀ h' S', Inv h' S' → Lay S' → ag [38, 39, 45, 46, 50, 52] S S' → S' 38 = aC (uC 38 nx (dvX (fD db.1) ex cx db.2.2.2.1 db.2.2.2.2).1 (dvX (fD db.1) ex cx db.2.2.2.1 db.2.2.2.2).2.1 wx) → S' 39 = aN (dvX (fD db.1) ex cx db.2.2.2.1 db.2.2.2.2).2.2 → Q (.inl none) h') : ix_M 125 [.ref 34, .ref b] h Q := by
  obtain ⟨wn, AR⟩ := L.1
  have B2 := B.2.1
  have B3 := B.2.2.1
  have vB := B.2.2.2
  have bB := vB.b
  have dB := vB.d
  have hb71 := B.1
  have hP : dvP (fD db.1) cx db.2.2.2.2 = (fD db.1 : Int) + 3 + dgs db.2.2.2.2 - dgs cx := rfl
  unfold dvX at q
  refine jx (pc' := 4) (L' := [_, _, _]) (st' := [_, _]) 2 rfl ?_
  refine jgf (pc' := 7) (I.ob (r := b) B2) rfl rfl rfl rfl rfl ?_
  refine jat (pc' := 8) I.tab rfl rfl ⟨by decide, vB.1⟩ rfl ?_
  rw [tv1 vB.1]
  refine jx (pc' := 11) (L' := [_, _, _]) (st' := [_, _]) 3 rfl ?_
  try simp (disch := omega) only [kz, kzl0, kzl1, kzb, kzs, zI_add, zI_sub, zI_neg, zI_mul, zL_i, zI_l, zL_add, zL_sub, zL_neg]
  refine jgf (pc' := 14) (I.ob (r := b) B2) rfl rfl rfl rfl rfl ?_
  refine jcv (pc' := 17) 52 [] [_] (I.no (r := (b+1)) B3) rfl rfl rfl rfl rfl rfl rfl rfl ?_
  refine v_digits I B3 fun _ => jk ?_
  rw [nz (dgs _)]
  refine jx (pc' := 19) (L' := [_, _, _]) (st' := [_, _]) 2 rfl ?_
  try simp (disch := omega) only [kz, kzl0, kzl1, kzb, kzs, zI_add, zI_sub, zI_neg, zI_mul, zL_i, zI_l, zL_add, zL_sub, zL_neg]
  refine jgf (pc' := 22) (I.ob (r := 34) AR) rfl rfl rfl rfl rfl ?_
  refine jgf (pc' := 25) (I.ob (r := 38) X) rfl rfl rfl rfl rfl ?_
  refine jcv (pc' := 28) 52 [] [_] (I.no (r := 39) XC) rfl rfl rfl rfl rfl rfl rfl rfl ?_
  refine v_digits (a := 39) I XC fun _ => jk ?_
  rw [nz (dgs _)]
  refine jx (pc' := 31) (L' := [_, _, _]) (st' := [_]) 3 rfl ?_
  try simp (disch := omega) only [kz, kzl0, kzl1, kzb, kzs, zI_add, zI_sub, zI_neg, zI_mul, zL_i, zI_l, zL_add, zL_sub, zL_neg]
  refine jgf (pc' := 34) (I.ob (r := 34) AR) rfl rfl rfl rfl rfl ?_
  refine jx (pc' := 35) (L' := [_, _, _]) (st' := [_, _]) 1 rfl ?_
  rw [← hP]
  have hPb : 4 ≤ dvP (fD db.1) cx db.2.2.2.2 ∨ dvP (fD db.1) cx db.2.2.2.2 ≤ 3 := by omega
  have hP2 : dvP (fD db.1) cx db.2.2.2.2 ≤ 71 ∧ -34 ≤ dvP (fD db.1) cx db.2.2.2.2 := by omega
  have hsh : cx * 10 ^ (dvP (fD db.1) cx db.2.2.2.2).toNat < 10 ^ 106 := Nat.lt_of_lt_of_le (dgs_sh _ _) (pl (by omega))
  generalize dvP (fD db.1) cx db.2.2.2.2 = P at *
  refine jcv (pc' := 38) 99 [_] [] (I.ob (r := 38) X) rfl rfl rfl rfl rfl rfl rfl rfl ?_
  refine v_lowerExponent (r := 38) I X XC ⟨by omega, by omega⟩ (Nat.lt_trans hsh (plt (by decide))) fun k1 I => jk ?_
  have L1 := L.up39 (v := cx * 10 ^ P.toNat) |>.up38 (ng := nx) (mo := false) (ex := ex - P) (wi := wx)
  have X1 : va_up (va_up S 39 (aN (cx * 10 ^ P.toNat))) 38 (aC (uC 38 nx false (ex - P) wx)) 38 = aC (uC 38 nx false (ex - P) wx) := rfl
  have B1 : RegD (va_up (va_up S 39 (aN (cx * 10 ^ P.toNat))) 38 (aC (uC 38 nx false (ex - P) wx))) b db := (B.up (by decide)).up (by decide)
  obtain ⟨w50, W50⟩ := L1.2.2.2.2.2.2.2.2.1
  obtain ⟨w52, W52⟩ := L1.2.2.2.2.2.2.2.2.2.1
  refine jx (pc' := 39) (L' := [_, _, _]) (st' := [_]) 1 rfl ?_
  refine jgf (pc' := 42) (I.ob (r := 34) AR) rfl rfl rfl rfl rfl ?_
  refine jx (pc' := 43) (L' := [_, _, _]) (st' := [_, _]) 1 rfl ?_
  refine jgf (pc' := 46) (I.ob (r := 34) AR) rfl rfl rfl rfl rfl ?_
  refine jgf (pc' := 49) (I.ob (r := 38) X1) rfl rfl rfl rfl rfl ?_
  refine jx (pc' := 50) (L' := [_, _, _]) (st' := [_, _, _]) 1 rfl ?_
  refine jgf (pc' := 53) (I.ob (r := b) B1.2.1) rfl rfl rfl rfl rfl ?_
  refine jx (pc' := 54) (L' := [_, _, _]) (st' := [_, _, _, _]) 1 rfl ?_
  refine jgf (pc' := 57) (I.ob (r := 34) AR) rfl rfl rfl rfl rfl ?_
  refine jx (pc' := 58) (L' := [_, _, _]) (st' := [_, _, _, _, _]) 1 rfl ?_
  refine jgf (pc' := 61) (I.ob (r := 34) AR) rfl rfl rfl rfl rfl ?_
  refine jcv (pc' := 64) 72 [_, _, _, _] [] (I.ob (r := 44) L1.2.2.2.1) rfl rfl rfl rfl rfl rfl rfl rfl ?_
  refine v_divide (dd := 39) (rr := 50) I L1.2.2.2.1 L1.2.2.2.2.1 L1.2.2.2.2.2.1 W52 rfl B1.2.2.1 W50 hcb (by decide) (by omega) (by decide) fun k2 T I g R1 R2 Q1 M1 => jk ?_
  have L2 := L1.agd g R1 R2 ⟨_, Q1⟩ ⟨_, M1⟩ (by decide)
  have X2 : T 38 = aC (uC 38 nx false (ex - P) wx) := g.at 38 (by decide) X1
  have XC2 : T 39 = aN (cx * 10 ^ P.toNat) := g.at 39 (by decide) rfl
  have B2 : RegD T b db := B1.ag g (by decide)
  obtain ⟨wn2, AR2⟩ := L2.1
  refine jx (pc' := 65) (L' := [_, _, _]) (st' := [_]) 1 rfl ?_
  refine jgf (pc' := 68) (I.ob (r := 34) AR2) rfl rfl rfl rfl rfl ?_
  refine jgf (pc' := 71) (I.ob (r := 38) X2) rfl rfl rfl rfl rfl ?_
  refine jx (pc' := 72) (L' := [_, _, _]) (st' := [_, _]) 1 rfl ?_
  refine jgf (pc' := 75) (I.ob (r := 34) AR2) rfl rfl rfl rfl rfl ?_
  refine jcv (pc' := 78) 48 [_] [] (I.no (r := 39) XC2) rfl rfl rfl rfl rfl rfl rfl rfl ?_
  refine v_copy (a := 39) (b := 52) I XC2 Q1 fun _ I => jk ?_
  have B3 : RegD (va_up T 39 (aN (cx * 10 ^ P.toNat / db.2.2.2.2))) b db := B2.up (by decide)
  refine jx (pc' := 79) (L' := [_, _, _]) (st' := [_]) 1 rfl ?_
  refine jgf (pc' := 82) (I.ob (r := 34) AR2) rfl rfl rfl rfl rfl ?_
  refine jx (pc' := 83) (L' := [_, _, _]) (st' := [_, _]) 1 rfl ?_
  refine jgf (pc' := 86) (I.ob (r := 38) X2) rfl rfl rfl rfl rfl ?_
  refine jx (pc' := 87) (L' := [_, _, _]) (st' := [_, _, _]) 1 rfl ?_
  refine jgf (pc' := 90) (I.ob (r := b) B3.2.1) rfl rfl rfl rfl rfl ?_
  refine jx (pc' := 92) (L' := [_, _, _]) (st' := [_, _]) 2 rfl ?_
  try simp (disch := omega) only [kz, kzl0, kzl1, kzb, kzs, zI_add, zI_sub, zI_neg, zI_mul, zL_i, zI_l, zL_add, zL_sub, zL_neg]
  refine jpA (pc' := 95) (r := 38) I X2 rfl rfl rfl (Nat.le_of_ble_eq_true rfl) (by intro z; cases z) rfl rfl rfl fun _ I X2 => ?_
  have B4 : va_up (va_up T 39 (aN (cx * 10 ^ P.toNat / db.2.2.2.2))) 38 (aC (uC 38 nx false (ex - P - db.2.2.2.1) wx)) 50 = aN (cx * 10 ^ P.toNat % db.2.2.2.2) := M1
  refine jx (pc' := 96) (L' := [_, _, _]) (st' := [_]) 1 rfl ?_
  refine jgf (pc' := 99) (I.ob (r := 34) AR2) rfl rfl rfl rfl rfl ?_
  refine jx (pc' := 100) (L' := [_, _, _]) (st' := [_, _]) 1 rfl ?_
  refine jgf (pc' := 103) (I.ob (r := 34) AR2) rfl rfl rfl rfl rfl ?_
  refine jcv (pc' := 106) 51 [] [_] (I.no (r := 50) M1) rfl rfl rfl rfl rfl rfl rfl rfl ?_
  refine v_used (a := 50) I M1 fun u hu hz => jk ?_
  rw [nz u]
  have gg : ag [38, 39, 45, 46, 50, 52] S T := ((((ag_0 _ S).up (by decide)).up (by decide)).tr g (by decide))
  by_cases h0 : cx * 10 ^ P.toNat % db.2.2.2.2 = 0
  · have hu0 := hz.mpr h0
    refine jit (pc' := 113) rfl rfl rfl (by rw [zz_eq ⟨by omega, by omega⟩]; exact decide_eq_true (by omega)) ?_
    refine jx (pc' := 114) (L' := [_, _, _]) (st' := [.int (zI 0), _]) 1 rfl ?_
    refine jpA (pc' := 117) (r := 38) I X2 rfl rfl rfl (Nat.le_of_ble_eq_true rfl) (by intro z; cases z) rfl rfl rfl fun _ I X2 => ?_
    refine ix_qr _ rfl rfl rfl ?_
    rw [decide_eq_false (fun z => z h0)] at q
    exact q _ _ I (L2.up39.up38.up38 (mo := false)) (((gg.up (by decide)).up (by decide)).up (by decide)) rfl rfl
  · have hu0 : ¬ u = 0 := fun z => h0 (hz.mp z)
    refine jin (pc' := 109) 113 rfl rfl rfl rfl (by rw [zz_eq ⟨by omega, by omega⟩]; exact decide_eq_false (by omega)) ?_
    refine jx (pc' := 114) (L' := [_, _, _]) (st' := [.int (zI 1), _]) 2 rfl ?_
    refine jpA (pc' := 117) (r := 38) I X2 rfl rfl rfl (Nat.le_of_ble_eq_true rfl) (by intro z; cases z) rfl rfl rfl fun _ I X2 => ?_
    refine ix_qr _ rfl rfl rfl ?_
    rw [decide_eq_true h0] at q
    exact q _ _ I (L2.up39.up38.up38 (mo := true)) (((gg.up (by decide)).up (by decide)).up (by decide)) rfl rfl
/-- Arithmetic.ratio -/
theorem v_ratio (I : Inv h S) (L : Lay S) (R : ResD S da) (A : RegD S a da) (B : RegD S b db) (hA : da.2.1 < 2) (hB : db.2.1 < 2) (q : ∀ h' S' v, Inv h' S' → Lay S' → ag arl S S' → Out S' da (raR da db) v → Q (.inl (some v)) h') : ix_M 124 [.ref 34, .ref a, .ref b] h Q := by
  obtain ⟨wn, AR⟩ := L.1
  have A2 := A.2.1
  have B2 := B.2.1
  have A3 := A.2.2.1
  have B3 := B.2.2.1
  have vA := A.2.2.2
  have vB := B.2.2.2
  have bA := vA.b
  have bB := vB.b
  have dA := vA.d
  have dB := vB.d
  obtain ⟨f1, f2, f3, f4, f5, f6, f7⟩ := f3b vA.1
  unfold raR at q
  have ti : ¬ (((da.2.1 = 0 ∧ da.2.2.2.2 = 0) ∧ (db.2.1 = 0 ∧ db.2.2.2.2 = 0)) ∨ (da.2.1 = 1 ∧ db.2.1 = 1)) → (da.2.1 = 1 ∨ (db.2.1 = 0 ∧ db.2.2.2.2 = 0)) → ∀ x : Bool, x = xo da db → ix_E 124 64 [some (.ref 34), some (.ref a), some (.ref b), some (.int (bI x))] [] h Q := by
    intro n1 n2 x hx
    simp only [if_neg n1, if_pos n2] at q
    rw [← hx] at q
    refine jx (pc' := 66) (L' := [_, _, _, _]) (st' := [_, _]) 2 rfl ?_
    refine jcv (pc' := 69) 118 [_] [] (I.ob (r := 34) AR) rfl rfl rfl rfl rfl rfl rfl rfl ?_
    refine v_infinite I L R fun h' S' I' L' g R' => jk ?_
    have I := I'
    have A' : RegD S' a da := A.ag g (by decide)
    refine jx (pc' := 71) (L' := [_, _, _, _]) (st' := [_]) 2 rfl ?_
    refine jcv (pc' := 74) 78 [] [] (I.ob (r := a) A'.2.1) rfl rfl rfl rfl rfl rfl rfl rfl ?_
    refine v_isInfinite I' A'.2.1 vA.2.1 (jk ?_)
    by_cases e1 : da.2.1 = 1
    · simp only [if_pos e1] at q
      refine jin (pc' := 77) 81 rfl rfl rfl rfl (by rw [bz_eq]; simp [e1]) ?_
      refine jx (pc' := 82) (L' := [_, _, _, _]) (st' := [.int (nI 0)]) 2 rfl ?_
      refine jri rfl rfl ?_
      exact q _ _ _ I' L' (g.w (by decide)) ⟨R', (by decide : 0 < 32), rfl⟩
    · simp only [if_neg e1] at q
      refine jit (pc' := 81) rfl rfl rfl (by rw [bz_eq]; simp [e1]) ?_
      refine jx (pc' := 82) (L' := [_, _, _, _]) (st' := [.int (nI 2)]) 1 rfl ?_
      refine jri rfl rfl ?_
      exact q _ _ _ I' L' (g.w (by decide)) ⟨R', (by decide : 2 < 32), rfl⟩
  have tr : ¬ (((da.2.1 = 0 ∧ da.2.2.2.2 = 0) ∧ (db.2.1 = 0 ∧ db.2.2.2.2 = 0)) ∨ (da.2.1 = 1 ∧ db.2.1 = 1)) → ¬ (da.2.1 = 1 ∨ (db.2.1 = 0 ∧ db.2.2.2.2 = 0)) → ∀ x : Bool, x = xo da db → ix_E 124 83 [some (.ref 34), some (.ref a), some (.ref b), some (.int (bI x))] [] h Q := by
    intro n1 n2 x hx
    simp only [if_neg n1, if_neg n2] at q
    rw [← hx] at q
    obtain ⟨xn, xm, xe, xw, xc, X0, XC0⟩ := L.2.1
    refine jx (pc' := 84) (L' := [_, _, _, _]) (st' := [_]) 1 rfl ?_
    refine jgf (pc' := 87) (I.ob (r := 34) AR) rfl rfl rfl rfl rfl ?_
    refine jx (pc' := 88) (L' := [_, _, _, _]) (st' := [_, _]) 1 rfl ?_
    refine jcv (pc' := 91) 96 [_] [] (I.ob (r := 38) X0) rfl rfl rfl rfl rfl rfl rfl rfl ?_
    refine v_takeX I L A fun _ I => jk ?_
    have X1 : va_up (va_up S 38 (aC (uC 38 da.2.2.1 false da.2.2.2.1 da.2.2.2.1))) 39 (aN da.2.2.2.2) 38 = aC (uC 38 da.2.2.1 false da.2.2.2.1 da.2.2.2.1) := rfl
    refine jx (pc' := 92) (L' := [_, _, _, _]) (st' := [_]) 1 rfl ?_
    refine jgf (pc' := 95) (I.ob (r := 34) AR) rfl rfl rfl rfl rfl ?_
    refine jx (pc' := 96) (L' := [_, _, _, _]) (st' := [_, _]) 1 rfl ?_
    refine jpA (pc' := 99) (r := 38) I X1 rfl rfl rfl (Nat.le_of_ble_eq_true rfl) (by intro z; cases z) (nb _) (fb _) rfl fun _ I X1 => ?_
    have A4 : RegD (va_up (va_up (va_up S 38 (aC (uC 38 da.2.2.1 false da.2.2.2.1 da.2.2.2.1))) 39 (aN da.2.2.2.2)) 38 (aC (uC 38 x false da.2.2.2.1 da.2.2.2.1))) a da := ((A.up (by decide)).up (by decide)).up (by decide)
    have B4 : RegD (va_up (va_up (va_up S 38 (aC (uC 38 da.2.2.1 false da.2.2.2.1 da.2.2.2.1))) 39 (aN da.2.2.2.2)) 38 (aC (uC 38 x false da.2.2.2.1 da.2.2.2.1))) b db := ((B.up (by decide)).up (by decide)).up (by decide)
    refine jx (pc' := 100) (L' := [_, _, _, _]) (st' := [_]) 1 rfl ?_
    refine jgf (pc' := 103) (I.ob (r := 34) AR) rfl rfl rfl rfl rfl ?_
    refine jx (pc' := 104) (L' := [_, _, _, _]) (st' := [_, _]) 1 rfl ?_
    refine jgf (pc' := 107) (I.ob (r := a) A4.2.1) rfl rfl rfl rfl rfl ?_
    refine jx (pc' := 108) (L' := [_, _, _, _]) (st' := [_, _, _]) 1 rfl ?_
    refine jgf (pc' := 111) (I.ob (r := b) B4.2.1) rfl rfl rfl rfl rfl ?_
    refine jx (pc' := 113) (L' := [_, _, _, _]) (st' := [_, _]) 2 rfl ?_
    try simp (disch := omega) only [kz, kzl0, kzl1, kzb, kzs, zI_add, zI_sub, zI_neg, zI_mul, zL_i, zI_l, zL_add, zL_sub, zL_neg]
    refine jpA (pc' := 116) (r := 38) I X1 rfl rfl rfl (Nat.le_of_ble_eq_true rfl) (by intro z; cases z) rfl rfl rfl fun _ I X1 => ?_
    have A5 : RegD (va_up (va_up (va_up (va_up S 38 (aC (uC 38 da.2.2.1 false da.2.2.2.1 da.2.2.2.1))) 39 (aN da.2.2.2.2)) 38 (aC (uC 38 x false da.2.2.2.1 da.2.2.2.1))) 38 (aC (uC 38 x false da.2.2.2.1 (da.2.2.2.1 - db.2.2.2.1)))) a da := A4.up (by decide)
    have B5 : RegD (va_up (va_up (va_up (va_up S 38 (aC (uC 38 da.2.2.1 false da.2.2.2.1 da.2.2.2.1))) 39 (aN da.2.2.2.2)) 38 (aC (uC 38 x false da.2.2.2.1 da.2.2.2.1))) 38 (aC (uC 38 x false da.2.2.2.1 (da.2.2.2.1 - db.2.2.2.1)))) b db := B4.up (by decide)
    have L5 : Lay (va_up (va_up (va_up (va_up S 38 (aC (uC 38 da.2.2.1 false da.2.2.2.1 da.2.2.2.1))) 39 (aN da.2.2.2.2)) 38 (aC (uC 38 x false da.2.2.2.1 da.2.2.2.1))) 38 (aC (uC 38 x false da.2.2.2.1 (da.2.2.2.1 - db.2.2.2.1)))) := L.up38.up39.up38.up38
    have g5 : ag arl S (va_up (va_up (va_up (va_up S 38 (aC (uC 38 da.2.2.1 false da.2.2.2.1 da.2.2.2.1))) 39 (aN da.2.2.2.2)) 38 (aC (uC 38 x false da.2.2.2.1 da.2.2.2.1))) 38 (aC (uC 38 x false da.2.2.2.1 (da.2.2.2.1 - db.2.2.2.1)))) := ((((ag_0 arl S).up (by decide)).up (by decide)).up (by decide)).up (by decide)
    have X5 : va_up (va_up (va_up (va_up S 38 (aC (uC 38 da.2.2.1 false da.2.2.2.1 da.2.2.2.1))) 39 (aN da.2.2.2.2)) 38 (aC (uC 38 x false da.2.2.2.1 da.2.2.2.1))) 38 (aC (uC 38 x false da.2.2.2.1 (da.2.2.2.1 - db.2.2.2.1))) 38 = aC (uC 38 x false da.2.2.2.1 (da.2.2.2.1 - db.2.2.2.1)) := rfl
    have XC5 : va_up (va_up (va_up (va_up S 38 (aC (uC 38 da.2.2.1 false da.2.2.2.1 da.2.2.2.1))) 39 (aN da.2.2.2.2)) 38 (aC (uC 38 x false da.2.2.2.1 da.2.2.2.1))) 38 (aC (uC 38 x false da.2.2.2.1 (da.2.2.2.1 - db.2.2.2.1))) 39 = aN da.2.2.2.2 := rfl
    have R5 : ResD (va_up (va_up (va_up (va_up S 38 (aC (uC 38 da.2.2.1 false da.2.2.2.1 da.2.2.2.1))) 39 (aN da.2.2.2.2)) 38 (aC (uC 38 x false da.2.2.2.1 da.2.2.2.1))) 38 (aC (uC 38 x false da.2.2.2.1 (da.2.2.2.1 - db.2.2.2.1)))) da := R
    change Inv _ (va_up (va_up (va_up (va_up S 38 (aC (uC 38 da.2.2.1 false da.2.2.2.1 da.2.2.2.1))) 39 (aN da.2.2.2.2)) 38 (aC (uC 38 x false da.2.2.2.1 da.2.2.2.1))) 38 (aC (uC 38 x false da.2.2.2.1 (da.2.2.2.1 - db.2.2.2.1)))) at I
    generalize va_up (va_up (va_up (va_up S 38 (aC (uC 38 da.2.2.1 false da.2.2.2.1 da.2.2.2.1))) 39 (aN da.2.2.2.2)) 38 (aC (uC 38 x false da.2.2.2.1 da.2.2.2.1))) 38 (aC (uC 38 x false da.2.2.2.1 (da.2.2.2.1 - db.2.2.2.1))) = T at *
    obtain ⟨wn5, AR5⟩ := L5.1
    refine jx (pc' := 117) (L' := [_, _, _, _]) (st' := [_]) 1 rfl ?_
    refine jcv (pc' := 120) 78 [] [] (I.ob (r := b) B5.2.1) rfl rfl rfl rfl rfl rfl rfl rfl ?_
    refine v_isInfinite I B5.2.1 vB.2.1 (jk ?_)
    by_cases e3 : db.2.1 = 1
    · simp only [if_pos e3] at q
      refine jin (pc' := 123) 149 rfl rfl rfl rfl (by rw [bz_eq]; simp [e3]) ?_
      refine jx (pc' := 124) (L' := [_, _, _, _]) (st' := [_]) 1 rfl ?_
      refine jgf (pc' := 127) (I.ob (r := 34) AR5) rfl rfl rfl rfl rfl ?_
      refine jx (pc' := 128) (L' := [_, _, _, _]) (st' := [_, _]) 1 rfl ?_
      refine jcv (pc' := 131) 97 [_] [] (I.ob (r := 38) X5) rfl rfl rfl rfl rfl rfl rfl rfl ?_
      refine v_setZero (r := 38) I X5 XC5 fun _ I => jk ?_
      have A6 : RegD (va_up (va_up T 38 (aC (uC 38 x false da.2.2.2.1 (da.2.2.2.1 - db.2.2.2.1)))) 39 (aN 0)) a da := (A5.up (by decide)).up (by decide)
      have X6 : va_up (va_up T 38 (aC (uC 38 x false da.2.2.2.1 (da.2.2.2.1 - db.2.2.2.1)))) 39 (aN 0) 38 = aC (uC 38 x false da.2.2.2.1 (da.2.2.2.1 - db.2.2.2.1)) := rfl
      refine jx (pc' := 132) (L' := [_, _, _, _]) (st' := [_]) 1 rfl ?_
      refine jgf (pc' := 135) (I.ob (r := 34) AR5) rfl rfl rfl rfl rfl ?_
      refine jx (pc' := 136) (L' := [_, _, _, _]) (st' := [_, _]) 1 rfl ?_
      refine jgf (pc' := 139) (I.ob (r := a) A6.2.1) rfl rfl rfl rfl rfl ?_
      refine jcs (pc' := 142) 45 [_] [_] rfl rfl rfl rfl rfl rfl rfl rfl ?_
      refine c_leastExponent I.tab vA.1 (jk ?_)
      refine jx (pc' := 143) (L' := [_, _, _, _]) (st' := [_, _]) 1 rfl ?_
      try simp (disch := omega) only [kz, kzl0, kzl1, kzb, kzs, zI_add, zI_sub, zI_neg, zI_mul, zL_i, zI_l, zL_add, zL_sub, zL_neg]
      refine jpA (pc' := 146) (r := 38) I X6 rfl rfl rfl (Nat.le_of_ble_eq_true rfl) (by intro z; cases z) rfl rfl rfl fun _ I X6 => ?_
      refine jx (pc' := 162) (L' := [_, _, _, _]) (st' := [.int (zI (-1))]) 2 rfl ?_
      refine jri rfl rfl ?_
      exact q _ _ _ I L5.up38.up39.up38 (((g5.up (by decide)).up (by decide)).up (by decide)) ⟨R5, rfl, rfl, ⟨by dsimp only; exact plt (a := 0) (by decide), by dsimp only; omega, by dsimp only; omega, by dsimp only; omega, by dsimp only; omega⟩, rfl⟩
    · simp only [if_neg e3] at q
      refine jit (pc' := 149) rfl rfl rfl (by rw [bz_eq]; simp [e3]) ?_
      refine jx (pc' := 150) (L' := [_, _, _, _]) (st' := [_]) 1 rfl ?_
      refine jcv (pc' := 153) 80 [] [] (I.ob (r := a) A5.2.1) rfl rfl rfl rfl rfl rfl rfl rfl ?_
      refine v_isZero I A5.2.1 A5.2.2.1 vA.2.1 (jk ?_)
      by_cases e4 : da.2.1 = 0 ∧ da.2.2.2.2 = 0
      · simp only [if_pos e4] at q
        refine jit (pc' := 161) rfl rfl rfl (by rw [bz_ne]; simp [e4]) ?_
        refine jx (pc' := 162) (L' := [_, _, _, _]) (st' := [.int (zI (-1))]) 1 rfl ?_
        refine jri rfl rfl ?_
        exact q _ _ _ I L5 g5 ⟨R5, X5, XC5, ⟨b34 vA.c, by dsimp only; omega, by dsimp only; omega, by dsimp only; omega, by dsimp only; omega⟩, rfl⟩
      · simp only [if_neg e4] at q
        have hcb : 0 < db.2.2.2.2 := by omega
        refine jin (pc' := 156) 161 rfl rfl rfl rfl (by rw [bz_ne]; simp; omega) ?_
        refine jx (pc' := 158) (L' := [_, _, _, _]) (st' := [_, _]) 2 rfl ?_
        refine jcv (pc' := 161) 125 [_] [] (I.ob (r := 34) AR5) rfl rfl rfl rfl rfl rfl rfl rfl ?_
        refine v_divideXBy I L5 X5 XC5 B5 hcb (by omega) ⟨by omega, by omega⟩ fun h' S' I' L' g X' XC' => jk ?_
        refine jx (pc' := 162) (L' := [_, _, _, _]) (st' := [.int (zI (-1))]) 1 rfl ?_
        refine jri rfl rfl ?_
        have hPb : dvP (fD db.1) da.2.2.2.2 db.2.2.2.2 ≤ 71 ∧ -34 ≤ dvP (fD db.1) da.2.2.2.2 db.2.2.2.2 := by unfold dvP; omega
        have hsh : da.2.2.2.2 * 10 ^ (dvP (fD db.1) da.2.2.2.2 db.2.2.2.2).toNat / db.2.2.2.2 < 10 ^ 138 := Nat.lt_of_le_of_lt (Nat.div_le_self _ _) (Nat.lt_of_lt_of_le (dgs_sh _ _) (pl (by omega)))
        exact q _ _ _ I' L' (g5.tr g (by decide)) ⟨⟨g.at 35 (by decide) R5.1, g.at 36 (by decide) R5.2.1, R5.2.2⟩, X', XC', ⟨b138 hsh, by unfold dvX; dsimp only; omega, by unfold dvX; dsimp only; omega, by dsimp only; omega, by dsimp only; omega⟩, rfl⟩
  have tx : ¬ (((da.2.1 = 0 ∧ da.2.2.2.2 = 0) ∧ (db.2.1 = 0 ∧ db.2.2.2.2 = 0)) ∨ (da.2.1 = 1 ∧ db.2.1 = 1)) → ∀ x : Bool, x = xo da db → ix_E 124 49 [some (.ref 34), some (.ref a), some (.ref b), none] [.int (bI x)] h Q := by
    intro n1 x hx
    refine jx (pc' := 51) (L' := [_, _, _, _]) (st' := [_]) 2 rfl ?_
    refine jcv (pc' := 54) 78 [] [] (I.ob (r := a) A2) rfl rfl rfl rfl rfl rfl rfl rfl ?_
    refine v_isInfinite I A2 vA.2.1 (jk ?_)
    by_cases e1 : da.2.1 = 1
    · skip
      refine jit (pc' := 64) rfl rfl rfl (by rw [bz_ne]; simp [e1]) ?_
      exact ti n1 (Or.inl e1) x hx
    · skip
      refine jin (pc' := 57) 64 rfl rfl rfl rfl (by rw [bz_ne]; simp [e1]) ?_
      refine jx (pc' := 58) (L' := [_, _, _, _]) (st' := [_]) 1 rfl ?_
      refine jcv (pc' := 61) 80 [] [] (I.ob (r := b) B2) rfl rfl rfl rfl rfl rfl rfl rfl ?_
      refine v_isZero I B2 B3 vB.2.1 (jk ?_)
      by_cases e2 : db.2.1 = 0 ∧ db.2.2.2.2 = 0
      · skip
        refine jin (pc' := 64) 83 rfl rfl rfl rfl (by rw [bz_eq]; simp [e2]) ?_
        exact ti n1 (Or.inr e2) x hx
      · skip
        refine jit (pc' := 83) rfl rfl rfl (by rw [bz_eq]; simp; omega) ?_
        exact tr n1 (fun z => z.elim e1 e2) x hx
  have tn : ¬ (((da.2.1 = 0 ∧ da.2.2.2.2 = 0) ∧ (db.2.1 = 0 ∧ db.2.2.2.2 = 0)) ∨ (da.2.1 = 1 ∧ db.2.1 = 1)) → ix_E 124 33 [some (.ref 34), some (.ref a), some (.ref b), none] [] h Q := by
    intro n1
    refine jx (pc' := 34) (L' := [_, _, _, _]) (st' := [_]) 1 rfl ?_
    refine jgf (pc' := 37) (I.ob (r := a) A2) rfl rfl rfl rfl rfl ?_
    refine jx (pc' := 38) (L' := [_, _, _, _]) (st' := [_, _]) 1 rfl ?_
    refine jgf (pc' := 41) (I.ob (r := b) B2) rfl rfl rfl rfl rfl ?_
    by_cases e : da.2.2.1 = db.2.2.1
    · skip
      refine jct (pc' := 48) rfl rfl rfl (by rw [bc_eq]; exact decide_eq_true e) ?_
      refine jx (pc' := 49) (L' := [_, _, _, _]) (st' := [.int (nI 0)]) 1 rfl ?_
      exact tx n1 false (decide_eq_false (fun z => z e)).symm
    · skip
      refine jcn (pc' := 44) 48 rfl rfl rfl rfl (by rw [bc_eq]; exact decide_eq_false e) ?_
      refine jx (pc' := 49) (L' := [_, _, _, _]) (st' := [.int (nI 1)]) 2 rfl ?_
      exact tx n1 true (decide_eq_true e).symm
  have t0 : (((da.2.1 = 0 ∧ da.2.2.2.2 = 0) ∧ (db.2.1 = 0 ∧ db.2.2.2.2 = 0)) ∨ (da.2.1 = 1 ∧ db.2.1 = 1)) → ix_E 124 28 [some (.ref 34), some (.ref a), some (.ref b), none] [] h Q := by
    intro n1
    simp only [if_pos n1] at q
    refine jx (pc' := 29) (L' := [_, _, _, _]) (st' := [_]) 1 rfl ?_
    refine jcv (pc' := 32) 117 [] [] (I.ob (r := 34) AR) rfl rfl rfl rfl rfl rfl rfl rfl ?_
    refine v_invalid I L R fun h' S' I' L' g R' => jk ?_
    refine jri rfl rfl ?_
    exact q _ _ _ I' L' (g.w (by decide)) ⟨R', (by decide : 1 < 32), rfl⟩
  have ts : ¬ ((da.2.1 = 0 ∧ da.2.2.2.2 = 0) ∧ (db.2.1 = 0 ∧ db.2.2.2.2 = 0)) → ix_E 124 14 [some (.ref 34), some (.ref a), some (.ref b), none] [] h Q := by
    intro n1
    refine jx (pc' := 15) (L' := [_, _, _, _]) (st' := [_]) 1 rfl ?_
    refine jcv (pc' := 18) 78 [] [] (I.ob (r := a) A2) rfl rfl rfl rfl rfl rfl rfl rfl ?_
    refine v_isInfinite I A2 vA.2.1 (jk ?_)
    by_cases e1 : da.2.1 = 1
    · skip
      refine jin (pc' := 21) 33 rfl rfl rfl rfl (by rw [bz_eq]; simp [e1]) ?_
      refine jx (pc' := 22) (L' := [_, _, _, _]) (st' := [_]) 1 rfl ?_
      refine jcv (pc' := 25) 78 [] [] (I.ob (r := b) B2) rfl rfl rfl rfl rfl rfl rfl rfl ?_
      refine v_isInfinite I B2 vB.2.1 (jk ?_)
      by_cases e2 : db.2.1 = 1
      · skip
        refine jin (pc' := 28) 33 rfl rfl rfl rfl (by rw [bz_eq]; simp [e2]) ?_
        exact t0 (Or.inr ⟨e1, e2⟩)
      · skip
        refine jit (pc' := 33) rfl rfl rfl (by rw [bz_eq]; simp [e2]) ?_
        exact tn (fun z => z.elim n1 (fun w => e2 w.2))
    · skip
      refine jit (pc' := 33) rfl rfl rfl (by rw [bz_eq]; simp [e1]) ?_
      exact tn (fun z => z.elim n1 (fun w => e1 w.1))
  refine jx (pc' := 1) (L' := [_, _, _, _]) (st' := [_]) 1 rfl ?_
  refine jcv (pc' := 4) 80 [] [] (I.ob (r := a) A2) rfl rfl rfl rfl rfl rfl rfl rfl ?_
  refine v_isZero I A2 A3 vA.2.1 (jk ?_)
  by_cases e1 : da.2.1 = 0 ∧ da.2.2.2.2 = 0
  · skip
    refine jin (pc' := 7) 14 rfl rfl rfl rfl (by rw [bz_eq]; simp [e1]) ?_
    refine jx (pc' := 8) (L' := [_, _, _, _]) (st' := [_]) 1 rfl ?_
    refine jcv (pc' := 11) 80 [] [] (I.ob (r := b) B2) rfl rfl rfl rfl rfl rfl rfl rfl ?_
    refine v_isZero I B2 B3 vB.2.1 (jk ?_)
    by_cases e2 : db.2.1 = 0 ∧ db.2.2.2.2 = 0
    · skip
      refine jit (pc' := 28) rfl rfl rfl (by rw [bz_ne]; simp [e2]) ?_
      exact t0 (Or.inl ⟨e1, e2⟩)
    · skip
      refine jin (pc' := 14) 28 rfl rfl rfl rfl (by rw [bz_ne]; simp; omega) ?_
      exact ts (fun z => e2 z.2)
  · skip
    refine jit (pc' := 14) rfl rfl rfl (by rw [bz_eq]; simp; omega) ?_
    exact ts (fun z => e1 z.1)
end ART
