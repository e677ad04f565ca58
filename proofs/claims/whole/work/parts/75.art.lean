/-! ===== Arithmetic: next ===== -/
noncomputable def sIn (d : Dm) : Dm := if dgs (d.2.2.2.2 - 1) < fD d.1 ∧ -(fB d.1 : Int) < d.2.2.2.1 then (d.1, d.2.1, d.2.2.1, d.2.2.2.1 - 1, (d.2.2.2.2 - 1) * 10 + 9) else (d.1, d.2.1, d.2.2.1, d.2.2.2.1, d.2.2.2.2 - 1)
noncomputable def sOu1 (d : Dm) : Dm := if fD d.1 < dgs (d.2.2.2.2 + 1) then (d.1, d.2.1, d.2.2.1, d.2.2.2.1 + 1, (d.2.2.2.2 + 1) / 10) else (d.1, d.2.1, d.2.2.1, d.2.2.2.1, d.2.2.2.2 + 1)
noncomputable def sOu (d : Dm) : Dm := if gE d.1 < (sOu1 d).2.2.2.1 then inf d d.2.2.1 else sOu1 d
noncomputable def nxP (A : Dm) : Int := min ((fD A.1 : Int) - dgs A.2.2.2.2) (A.2.2.2.1 + fB A.1)
noncomputable def nxR (A : Dm) (m : Bool) : Dm :=
  if A.2.1 = 1 then (if ¬ A.2.2.1 = m then (A.1, 0, A.2.2.1, gE A.1, 10 ^ fD A.1 - 1) else A) else
  if A.2.1 = 0 ∧ A.2.2.2.2 = 0 then (A.1, A.2.1, m, -(fB A.1 : Int), 1) else
  if ¬ A.2.2.1 = m then sIn (A.1, A.2.1, A.2.2.1, A.2.2.2.1 - nxP A, A.2.2.2.2 * 10 ^ (nxP A).toNat) else sOu (A.1, A.2.1, A.2.2.1, A.2.2.2.1 - nxP A, A.2.2.2.2 * 10 ^ (nxP A).toNat)
theorem kL9 : (9 : Int64) = zL 9 := by decide
theorem kzL10 : (10 : Int64) = zL 10 := by decide
section ART
variable {h : ix_H} {Q : ix_O → ix_H → Prop} {S : Nat → AC} {a b c what cx cy dir f : Nat} {da db dc dr : Dm} {m nx ny nB : Bool} {n : Int}
theorem v_stepInward (I : Inv h S) (L : Lay S) (R : ResD S dr) (hc : 0 < dr.2.2.2.2 ∧ dr.2.2.2.2 < 10 ^ 35) (hx : -10000 ≤ dr.2.2.2.1 ∧ dr.2.2.2.1 ≤ 10000) (q : ∀ h' S', Inv h' S' → Lay S' → ag [35, 36] S S' → ResD S' (sIn dr) → Q (.inl none) h') : ix_M 137 [.ref 34, .int (zI (-(fB dr.1 : Int)))] h Q := by
  obtain ⟨wn, AR⟩ := L.1
  obtain ⟨r1, r2, r3, r4, r5⟩ := R
  obtain ⟨f1, f2, f3, f4, f5, f6, f7⟩ := f3b r3
  have hdg : dgs (dr.2.2.2.2 - 1) ≤ 144 := dgs_le (by have : (10 : Nat) ^ 35 < 10 ^ 144 := plt (by decide); omega)
  unfold sIn at q
  refine jx (pc' := 1) (L' := [_, _, _]) (st' := [_]) 1 rfl ?_
  refine jgf (pc' := 4) (I.ob (r := 34) AR) rfl rfl rfl rfl rfl ?_
  refine jgf (pc' := 7) (I.ob (r := 35) r1) rfl rfl rfl rfl rfl ?_
  refine jcv (pc' := 10) 69 [] [] (I.no (r := 36) r2) rfl rfl rfl rfl rfl rfl rfl rfl ?_
  refine v_lessOne (a := 36) I r2 hc.1 fun h1 I => jk ?_
  refine jx (pc' := 11) (L' := [_, _, _]) (st' := [_]) 1 rfl ?_
  refine jgf (pc' := 14) (I.ob (r := 34) AR) rfl rfl rfl rfl rfl ?_
  refine jgf (pc' := 17) (I.ob (r := 35) r1) rfl rfl rfl rfl rfl ?_
  refine jcv (pc' := 20) 52 [] [] (I.no (r := 36) rfl) rfl rfl rfl rfl rfl rfl rfl rfl ?_
  refine v_digits (a := 36) I rfl fun _ => jk ?_
  rw [nz (dgs _)]
  refine jx (pc' := 24) (L' := [_, _, _]) (st' := [_, _, _]) 2 rfl ?_
  refine jgf (pc' := 27) (I.ob (r := 34) AR) rfl rfl rfl rfl rfl ?_
  refine jgf (pc' := 30) (I.ob (r := 35) r1) rfl rfl rfl rfl rfl ?_
  refine jat (pc' := 31) I.tab rfl rfl ⟨by decide, r3⟩ rfl ?_
  rw [tv1 r3]
  have t0 : ¬ (dgs (dr.2.2.2.2 - 1) < fD dr.1 ∧ -(fB dr.1 : Int) < dr.2.2.2.1) → ∀ l, ix_E 137 84 [some (.ref 34), some (.int (zI (-(fB dr.1 : Int)))), l] [] h1 Q := by
    intro hn l
    simp only [if_neg hn] at q
    refine ix_qr _ rfl rfl rfl ?_
    exact q _ _ I L.up36 ((ag_0 _ S).up (by decide)) ⟨r1, rfl, r3, r4, r5⟩
  by_cases e1 : dgs (dr.2.2.2.2 - 1) < fD dr.1
  · skip
    refine jcn (pc' := 34) 38 rfl rfl rfl rfl (by rw [zc_ge ⟨by omega, by omega⟩ ⟨by omega, by omega⟩]; exact decide_eq_false (by omega)) ?_
    refine jx (pc' := 39) (L' := [_, _, _]) (st' := [.int (zI 1)]) 2 rfl ?_
    refine jx (pc' := 41) (L' := [_, _, _]) (st' := [_]) 2 rfl ?_
    refine jin (pc' := 44) 84 rfl rfl rfl rfl (rfl) ?_
    refine jx (pc' := 45) (L' := [_, _, _]) (st' := [_]) 1 rfl ?_
    refine jgf (pc' := 48) (I.ob (r := 34) AR) rfl rfl rfl rfl rfl ?_
    refine jgf (pc' := 51) (I.ob (r := 35) r1) rfl rfl rfl rfl rfl ?_
    refine jx (pc' := 52) (L' := [_, _, _]) (st' := [_, _]) 1 rfl ?_
    by_cases e2 : -(fB dr.1 : Int) < dr.2.2.2.1
    · have hn : dgs (dr.2.2.2.2 - 1) < fD dr.1 ∧ -(fB dr.1 : Int) < dr.2.2.2.1 := ⟨e1, e2⟩
      simp only [if_pos hn] at q
      refine jcn (pc' := 55) 84 rfl rfl rfl rfl (by rw [zc_le ⟨by omega, by omega⟩ ⟨by omega, by omega⟩]; exact decide_eq_false (by omega)) ?_
      refine jx (pc' := 56) (L' := [_, _, _]) (st' := [_]) 1 rfl ?_
      refine jgf (pc' := 59) (I.ob (r := 34) AR) rfl rfl rfl rfl rfl ?_
      refine jgf (pc' := 62) (I.ob (r := 35) r1) rfl rfl rfl rfl rfl ?_
      refine jx (pc' := 68) (L' := [_, _, _]) (st' := [_, _, _]) 2 rfl ?_
      try simp (disch := omega) only [kL10, kL9, kz, kzl0, kzl1, kzb, kzs, zI_add, zI_sub, zI_neg, zI_mul, zL_i, zI_l, zL_add, zL_sub, zL_neg]
      rw [← (show lN 9 = zL 9 by decide)]
      refine jcv (pc' := 71) 55 [_, _] [] (I.no (r := 36) rfl) rfl rfl rfl rfl rfl rfl rfl rfl ?_
      refine v_timesPlus (a := 36) (m := 10) (p := 9) I rfl (by decide) (by decide) (by omega) fun _ I => jk ?_
      refine jx (pc' := 72) (L' := [_, _, _]) (st' := [_]) 1 rfl ?_
      refine jgf (pc' := 75) (I.ob (r := 34) AR) rfl rfl rfl rfl rfl ?_
      refine jx (pc' := 76) (L' := [_, _, _]) (st' := [_, _]) 1 rfl ?_
      refine jgf (pc' := 79) (I.ob (r := 35) r1) rfl rfl rfl rfl rfl ?_
      refine jx (pc' := 81) (L' := [_, _, _]) (st' := [_, _]) 2 rfl ?_
      try simp (disch := omega) only [kz, kzl0, kzl1, kzb, kzs, zI_add, zI_sub, zI_neg, zI_mul, zL_i, zI_l, zL_add, zL_sub, zL_neg]
      refine jpA (pc' := 84) (r := 35) I r1 rfl rfl rfl (Nat.le_of_ble_eq_true rfl) (by intro z; cases z) rfl rfl rfl fun _ I r1 => ?_
      refine ix_qr _ rfl rfl rfl ?_
      exact q _ _ I L.up36.up36.up35 ((((ag_0 _ S).up (by decide)).up (by decide)).up (by decide)) ⟨rfl, rfl, r3, r4, (⟨by omega, by omega⟩ : zr (dr.2.2.2.1 - 1))⟩
    · skip
      refine jct (pc' := 84) rfl rfl rfl (by rw [zc_le ⟨by omega, by omega⟩ ⟨by omega, by omega⟩]; exact decide_eq_true (by omega)) ?_
      exact t0 (fun z => e2 z.2) _
  · skip
    refine jct (pc' := 38) rfl rfl rfl (by rw [zc_ge ⟨by omega, by omega⟩ ⟨by omega, by omega⟩]; exact decide_eq_true (by omega)) ?_
    refine jx (pc' := 39) (L' := [_, _, _]) (st' := [.int (zI 0)]) 1 rfl ?_
    refine jx (pc' := 41) (L' := [_, _, _]) (st' := [_]) 2 rfl ?_
    refine jit (pc' := 84) rfl rfl rfl (rfl) ?_
    exact t0 (fun z => e1 z.1) _
theorem v_stepOutward (I : Inv h S) (L : Lay S) (R : ResD S dr) (hc : dr.2.2.2.2 < 10 ^ 35) (hx : -10000 ≤ dr.2.2.2.1 ∧ dr.2.2.2.1 ≤ 10000) (q : ∀ h' S', Inv h' S' → Lay S' → ag [35, 36] S S' → ResD S' (sOu dr) → Q (.inl none) h') : ix_M 138 [.ref 34] h Q := by
  obtain ⟨wn, AR⟩ := L.1
  obtain ⟨r1, r2, r3, r4, r5⟩ := R
  obtain ⟨f1, f2, f3, f4, f5, f6, f7⟩ := f3b r3
  have hgb := gEb r3
  have hg : gE dr.1 = (fE dr.1 : Int) - fD dr.1 + 1 := rfl
  have hb1 : (10 : Nat) ^ 35 + 1 < 10 ^ 144 := by decide
  have hdg : dgs (dr.2.2.2.2 + 1) ≤ 144 := dgs_le (by omega)
  have t0 : ∀ (k : ix_H) (T : Nat → AC) (e : Int) (co : Nat), Inv k T → Lay T → ag [35, 36] S T → T 35 = aC (dC 35 dr.1 dr.2.1 dr.2.2.1 e) → T 36 = aN co → sOu1 dr = (dr.1, dr.2.1, dr.2.2.1, e, co) → -20000 ≤ e → e ≤ 20000 → ix_E 138 60 [some (.ref 34)] [] k Q := by
    intro k T e co I L g r1 r2 hE b1 b2
    obtain ⟨wn, AR⟩ := L.1
    unfold sOu at q
    rw [hE] at q
    refine jx (pc' := 61) (L' := [_]) (st' := [_]) 1 rfl ?_
    refine jgf (pc' := 64) (I.ob (r := 34) AR) rfl rfl rfl rfl rfl ?_
    refine jgf (pc' := 67) (I.ob (r := 35) r1) rfl rfl rfl rfl rfl ?_
    refine jx (pc' := 68) (L' := [_]) (st' := [_, _]) 1 rfl ?_
    refine jgf (pc' := 71) (I.ob (r := 34) AR) rfl rfl rfl rfl rfl ?_
    refine jgf (pc' := 74) (I.ob (r := 35) r1) rfl rfl rfl rfl rfl ?_
    refine jcs (pc' := 77) 46 [_] [_] rfl rfl rfl rfl rfl rfl rfl rfl ?_
    refine c_greatestExponent I.tab r3 (jk ?_)
    rw [← hg]
    by_cases e1 : gE dr.1 < e
    · simp only [if_pos e1] at q
      refine jcn (pc' := 80) 88 rfl rfl rfl rfl (by rw [zc_le ⟨by omega, by omega⟩ ⟨by omega, by omega⟩]; exact decide_eq_false (by omega)) ?_
      refine jx (pc' := 81) (L' := [_]) (st' := [_]) 1 rfl ?_
      refine jgf (pc' := 84) (I.ob (r := 34) AR) rfl rfl rfl rfl rfl ?_
      refine jx (pc' := 85) (L' := [_]) (st' := [.int (zI 1), _]) 1 rfl ?_
      refine jcv (pc' := 88) 83 [.int (zI 1)] [] (I.ob (r := 35) r1) rfl rfl rfl rfl rfl rfl rfl rfl ?_
      refine v_setSpecial (r := 35) (s := 1) I r1 r2 r3 r4 ⟨by omega, by omega⟩ fun _ I => jk ?_
      refine ix_qr _ rfl rfl rfl ?_
      exact q _ _ I L.up35.up36 ((g.up (by decide)).up (by decide)) ⟨rfl, rfl, r3, (by decide : 1 < 4), zr0⟩
    · simp only [if_neg e1] at q
      refine jct (pc' := 88) rfl rfl rfl (by rw [zc_le ⟨by omega, by omega⟩ ⟨by omega, by omega⟩]; exact decide_eq_true (by omega)) ?_
      refine ix_qr _ rfl rfl rfl ?_
      exact q _ _ I L g ⟨r1, r2, r3, r4, (⟨by omega, by omega⟩ : zr e)⟩
  refine jx (pc' := 1) (L' := [_]) (st' := [_]) 1 rfl ?_
  refine jgf (pc' := 4) (I.ob (r := 34) AR) rfl rfl rfl rfl rfl ?_
  refine jgf (pc' := 7) (I.ob (r := 35) r1) rfl rfl rfl rfl rfl ?_
  refine jx (pc' := 9) (L' := [_]) (st' := [.long (zL 1), .long (zL 1), _]) 2 rfl ?_
  rw [← (show lN 1 = zL 1 by decide)]
  refine jcv (pc' := 12) 55 [.long (zL 1), .long (zL 1)] [] (I.no (r := 36) r2) rfl rfl rfl rfl rfl rfl rfl rfl ?_
  refine v_timesPlus (a := 36) (m := 1) (p := 1) I r2 (by decide) (by decide) (by omega) fun _ I => jk ?_
  rw [Nat.mul_one] at I
  refine jx (pc' := 13) (L' := [_]) (st' := [_]) 1 rfl ?_
  refine jgf (pc' := 16) (I.ob (r := 34) AR) rfl rfl rfl rfl rfl ?_
  refine jgf (pc' := 19) (I.ob (r := 35) r1) rfl rfl rfl rfl rfl ?_
  refine jcv (pc' := 22) 52 [] [] (I.no (r := 36) rfl) rfl rfl rfl rfl rfl rfl rfl rfl ?_
  refine v_digits (a := 36) I rfl fun _ => jk ?_
  rw [nz (dgs _)]
  refine jx (pc' := 26) (L' := [_]) (st' := [_, _, _]) 2 rfl ?_
  refine jgf (pc' := 29) (I.ob (r := 34) AR) rfl rfl rfl rfl rfl ?_
  refine jgf (pc' := 32) (I.ob (r := 35) r1) rfl rfl rfl rfl rfl ?_
  refine jat (pc' := 33) I.tab rfl rfl ⟨by decide, r3⟩ rfl ?_
  rw [tv1 r3]
  by_cases e1 : fD dr.1 < dgs (dr.2.2.2.2 + 1)
  · skip
    refine jcn (pc' := 36) 60 rfl rfl rfl rfl (by rw [zc_le ⟨by omega, by omega⟩ ⟨by omega, by omega⟩]; exact decide_eq_false (by omega)) ?_
    refine jx (pc' := 37) (L' := [_]) (st' := [_]) 1 rfl ?_
    refine jgf (pc' := 40) (I.ob (r := 34) AR) rfl rfl rfl rfl rfl ?_
    refine jgf (pc' := 43) (I.ob (r := 35) r1) rfl rfl rfl rfl rfl ?_
    refine jx (pc' := 44) (L' := [_]) (st' := [.int (zI 1), _]) 1 rfl ?_
    refine jcv (pc' := 47) 64 [.int (zI 1)] [] (I.no (r := 36) rfl) rfl rfl rfl rfl rfl rfl rfl rfl ?_
    refine v_shiftDown (a := 36) (p := 1) I rfl ⟨by decide, by decide⟩ fun _ I => jk ?_
    rw [show (10 : Nat) ^ (1 : Int).toNat = 10 from rfl] at I
    refine jx (pc' := 48) (L' := [_]) (st' := [_]) 1 rfl ?_
    refine jgf (pc' := 51) (I.ob (r := 34) AR) rfl rfl rfl rfl rfl ?_
    refine jx (pc' := 52) (L' := [_]) (st' := [_, _]) 1 rfl ?_
    refine jgf (pc' := 55) (I.ob (r := 35) r1) rfl rfl rfl rfl rfl ?_
    refine jx (pc' := 57) (L' := [_]) (st' := [_, _]) 2 rfl ?_
    try simp (disch := omega) only [kz, kzl0, kzl1, kzb, kzs, zI_add, zI_sub, zI_neg, zI_mul, zL_i, zI_l, zL_add, zL_sub, zL_neg]
    refine jpA (pc' := 60) (r := 35) I r1 rfl rfl rfl (Nat.le_of_ble_eq_true rfl) (by intro z; cases z) rfl rfl rfl fun _ I r1 => ?_
    exact t0 _ _ _ _ I L.up36.up36.up35 ((((ag_0 _ S).up (by decide)).up (by decide)).up (by decide)) rfl rfl (by unfold sOu1; rw [if_pos e1]) (by omega) (by omega)
  · skip
    refine jct (pc' := 60) rfl rfl rfl (by rw [zc_le ⟨by omega, by omega⟩ ⟨by omega, by omega⟩]; exact decide_eq_true (by omega)) ?_
    exact t0 _ _ _ _ I L.up36 ((ag_0 _ S).up (by decide)) r1 rfl (by unfold sOu1; rw [if_neg e1]) (by omega) (by omega)
/-- Arithmetic.next -/
theorem v_next (I : Inv h S) (L : Lay S) (R : ResD S da) (A : RegD S a da) (hA : da.2.1 < 2) (q : ∀ h' S', Inv h' S' → Lay S' → ag [35, 36] S S' → ResD S' (nxR da m) → Q (.inl none) h') : ix_M 136 [.ref 34, .ref a, .int (bI m)] h Q := by
  obtain ⟨wn, AR⟩ := L.1
  obtain ⟨r1, r2, r3, r4, r5⟩ := R
  obtain ⟨f1, f2, f3, f4, f5, f6, f7⟩ := f3b r3
  have A2 := A.2.1
  have A3 := A.2.2.1
  have vA := A.2.2.2
  have bA := vA.b
  have dA := vA.d
  have hr := vA.2.2.1
  have hP : nxP da = min ((fD da.1 : Int) - dgs da.2.2.2.2) (da.2.2.2.1 + fB da.1) := rfl
  unfold nxR at q
  have t : ∀ inw : Bool, inw = decide (¬ da.2.2.1 = m) → ix_E 136 21 [some (.ref 34), some (.ref a), some (.int (bI m)), some (.int (zI (-(fB da.1 : Int)))), none, none, none] [.int (bI inw)] h Q := by
    intro inw hi
    refine jx (pc' := 24) (L' := [_, _, _, _, _, _, _]) (st' := [_]) 2 rfl ?_
    refine jcv (pc' := 27) 78 [] [] (I.ob (r := a) A2) rfl rfl rfl rfl rfl rfl rfl rfl ?_
    refine v_isInfinite I A2 vA.2.1 (jk ?_)
    by_cases e1 : da.2.1 = 1
    · simp only [if_pos e1] at q
      refine jin (pc' := 30) 45 rfl rfl rfl rfl (by rw [bz_eq]; simp [e1]) ?_
      refine jx (pc' := 32) (L' := [_, _, _, _, _, _, _]) (st' := [_]) 1 rfl ?_
      cases inw with
      | true =>
        have hi := of_decide_eq_true hi.symm
        simp only [if_pos hi] at q
        refine jin (pc' := 35) 155 rfl rfl rfl rfl (rfl) ?_
        refine jx (pc' := 36) (L' := [_, _, _, _, _, _, _]) (st' := [_]) 1 rfl ?_
        refine jgf (pc' := 39) (I.ob (r := 34) AR) rfl rfl rfl rfl rfl ?_
        refine jcv (pc' := 42) 86 [] [] (I.ob (r := 35) r1) rfl rfl rfl rfl rfl rfl rfl rfl ?_
        refine v_setGreatest (r := 35) I r1 r2 r3 r4 r5 fun _ I => jk ?_
        refine jx (pc' := 155) (L' := [_, _, _, _, _, _, _]) (st' := []) 1 rfl ?_
        refine ix_qr _ rfl rfl rfl ?_
        have hgb := gEb r3
        exact q _ _ I L.up35.up36 (((ag_0 _ S).up (by decide)).up (by decide)) ⟨rfl, rfl, r3, (by decide : 0 < 4), (⟨by omega, by omega⟩ : zr (gE da.1))⟩
      | false =>
        have hi := of_decide_eq_false hi.symm
        simp only [if_neg hi] at q
        refine jit (pc' := 155) rfl rfl rfl (rfl) ?_
        refine ix_qr _ rfl rfl rfl ?_
        exact q _ _ I L (ag_0 _ S) ⟨r1, r2, r3, r4, r5⟩
    · simp only [if_neg e1] at q
      refine jit (pc' := 45) rfl rfl rfl (by rw [bz_eq]; simp [e1]) ?_
      refine jx (pc' := 46) (L' := [_, _, _, _, _, _, _]) (st' := [_]) 1 rfl ?_
      refine jcv (pc' := 49) 80 [] [] (I.ob (r := a) A2) rfl rfl rfl rfl rfl rfl rfl rfl ?_
      refine v_isZero I A2 A3 vA.2.1 (jk ?_)
      by_cases e2 : da.2.1 = 0 ∧ da.2.2.2.2 = 0
      · simp only [if_pos e2] at q
        refine jin (pc' := 52) 81 rfl rfl rfl rfl (by rw [bz_eq]; simp [e2]) ?_
        refine jx (pc' := 53) (L' := [_, _, _, _, _, _, _]) (st' := [_]) 1 rfl ?_
        refine jgf (pc' := 56) (I.ob (r := 34) AR) rfl rfl rfl rfl rfl ?_
        refine jgf (pc' := 59) (I.ob (r := 35) r1) rfl rfl rfl rfl rfl ?_
        refine jcv (pc' := 62) 57 [] [] (I.no (r := 36) r2) rfl rfl rfl rfl rfl rfl rfl rfl ?_
        refine v_setOne (a := 36) I r2 fun _ I => jk ?_
        refine jx (pc' := 63) (L' := [_, _, _, _, _, _, _]) (st' := [_]) 1 rfl ?_
        refine jgf (pc' := 66) (I.ob (r := 34) AR) rfl rfl rfl rfl rfl ?_
        refine jx (pc' := 67) (L' := [_, _, _, _, _, _, _]) (st' := [_, _]) 1 rfl ?_
        refine jpA (pc' := 70) (r := 35) I r1 rfl rfl rfl (Nat.le_of_ble_eq_true rfl) (by intro z; cases z) rfl rfl rfl fun _ I r1 => ?_
        refine jx (pc' := 71) (L' := [_, _, _, _, _, _, _]) (st' := [_]) 1 rfl ?_
        refine jgf (pc' := 74) (I.ob (r := 34) AR) rfl rfl rfl rfl rfl ?_
        refine jx (pc' := 75) (L' := [_, _, _, _, _, _, _]) (st' := [_, _]) 1 rfl ?_
        refine jpA (pc' := 78) (r := 35) I r1 rfl rfl rfl (Nat.le_of_ble_eq_true rfl) (by intro z; cases z) (nb _) (fb _) rfl fun _ I r1 => ?_
        refine jx (pc' := 155) (L' := [_, _, _, _, _, _, _]) (st' := []) 1 rfl ?_
        refine ix_qr _ rfl rfl rfl ?_
        exact q _ _ I L.up36.up35.up35 ((((ag_0 _ S).up (by decide)).up (by decide)).up (by decide)) ⟨rfl, rfl, r3, r4, (⟨by omega, by omega⟩ : zr (-(fB da.1 : Int)))⟩
      · simp only [if_neg e2] at q
        have hc0 : 0 < da.2.2.2.2 := by omega
        have hd1 := (dgs_p hc0).1
        refine jit (pc' := 81) rfl rfl rfl (by rw [bz_eq]; simp; omega) ?_
        refine jx (pc' := 85) (L' := [_, _, _, _, _, _, _]) (st' := [_, _]) 2 rfl ?_
        refine jgf (pc' := 88) (I.ob (r := a) A2) rfl rfl rfl rfl rfl ?_
        refine jat (pc' := 89) I.tab rfl rfl ⟨by decide, r3⟩ rfl ?_
        rw [tv1 r3]
        refine jx (pc' := 90) (L' := [_, _, _, _, _, _, _]) (st' := [_, _]) 1 rfl ?_
        refine jgf (pc' := 93) (I.ob (r := a) A2) rfl rfl rfl rfl rfl ?_
        refine jcv (pc' := 96) 52 [] [_] (I.no (r := (a+1)) A3) rfl rfl rfl rfl rfl rfl rfl rfl ?_
        refine v_digits I A3 fun _ => jk ?_
        rw [nz (dgs _)]
        refine jx (pc' := 102) (L' := [_, _, _, _, _, _, _]) (st' := [_, _]) 4 rfl ?_
        try simp (disch := omega) only [kz, kzl0, kzl1, kzb, kzs, zI_add, zI_sub, zI_neg, zI_mul, zL_i, zI_l, zL_add, zL_sub, zL_neg]
        refine jgf (pc' := 105) (I.ob (r := a) A2) rfl rfl rfl rfl rfl ?_
        refine jx (pc' := 107) (L' := [_, _, _, _, _, _, _]) (st' := [_, _]) 2 rfl ?_
        try simp (disch := omega) only [kz, kzl0, kzl1, kzb, kzs, zI_add, zI_sub, zI_neg, zI_mul, zL_i, zI_l, zL_add, zL_sub, zL_neg]
        refine jcs (pc' := 110) 274 [_, _] [] rfl rfl rfl rfl rfl rfl rfl rfl ?_
        refine c_minI ⟨by omega, by omega⟩ ⟨by omega, by omega⟩ (jk ?_)
        rw [show da.2.2.2.1 - -(fB da.1 : Int) = da.2.2.2.1 + fB da.1 by omega, ← hP]
        have hPb : 0 ≤ nxP da ∧ nxP da ≤ 34 := by omega
        have hsh : da.2.2.2.2 * 10 ^ (nxP da).toNat < 10 ^ 34 := Nat.lt_of_lt_of_le (dgs_sh _ _) (pl (by omega))
        have hsp : 0 < da.2.2.2.2 * 10 ^ (nxP da).toNat := Nat.mul_pos hc0 (pp0 _)
        generalize nxP da = P at *
        generalize hCC : da.2.2.2.2 * 10 ^ P.toNat = CC at *
        have h35 : CC < 10 ^ 35 := Nat.lt_trans hsh (plt (by decide))
        refine jx (pc' := 113) (L' := [_, _, _, _, _, _, _]) (st' := [_]) 2 rfl ?_
        refine jgf (pc' := 116) (I.ob (r := 34) AR) rfl rfl rfl rfl rfl ?_
        refine jgf (pc' := 119) (I.ob (r := 35) r1) rfl rfl rfl rfl rfl ?_
        refine jx (pc' := 121) (L' := [_, _, _, _, _, _, _]) (st' := [_, _]) 1 rfl ?_
        refine jcv (pc' := 124) 56 [_] [] (I.no (r := 36) r2) rfl rfl rfl rfl rfl rfl rfl rfl ?_
        refine v_shiftUp (a := 36) (x := da.2.2.2.2) I r2 ⟨by omega, by omega⟩ (by rw [hCC]; exact Nat.lt_trans hsh (plt (by decide))) fun _ I => jk ?_
        rw [hCC] at I
        refine jx (pc' := 125) (L' := [_, _, _, _, _, _, _]) (st' := [_]) 1 rfl ?_
        refine jgf (pc' := 128) (I.ob (r := 34) AR) rfl rfl rfl rfl rfl ?_
        refine jx (pc' := 129) (L' := [_, _, _, _, _, _, _]) (st' := [_, _]) 1 rfl ?_
        refine jgf (pc' := 132) (I.ob (r := 35) r1) rfl rfl rfl rfl rfl ?_
        refine jx (pc' := 135) (L' := [_, _, _, _, _, _, _]) (st' := [_, _]) 2 rfl ?_
        try simp (disch := omega) only [kz, kzl0, kzl1, kzb, kzs, zI_add, zI_sub, zI_neg, zI_mul, zL_i, zI_l, zL_add, zL_sub, zL_neg]
        refine jpA (pc' := 138) (r := 35) I r1 rfl rfl rfl (Nat.le_of_ble_eq_true rfl) (by intro z; cases z) rfl rfl rfl fun _ I r1 => ?_
        refine jx (pc' := 140) (L' := [_, _, _, _, _, _, _]) (st' := [_]) 1 rfl ?_
        cases inw with
        | true =>
          have hi := of_decide_eq_true hi.symm
          simp only [if_pos hi] at q
          refine jin (pc' := 143) 151 rfl rfl rfl rfl (rfl) ?_
          refine jx (pc' := 145) (L' := [_, _, _, _, _, _, _]) (st' := [_, _]) 2 rfl ?_
          refine jcv (pc' := 148) 137 [_] [] (I.ob (r := 34) AR) rfl rfl rfl rfl rfl rfl rfl rfl ?_
          refine v_stepInward (dr := (da.1, da.2.1, da.2.2.1, da.2.2.2.1 - P, CC)) I L.up36.up35 ⟨rfl, rfl, r3, r4, (⟨by omega, by omega⟩ : zr (da.2.2.2.1 - P))⟩ ⟨hsp, h35⟩ ⟨by dsimp only; omega, by dsimp only; omega⟩ fun h' S' I' L' g R' => jk ?_
          refine jx (pc' := 155) (L' := [_, _, _, _, _, _, _]) (st' := []) 1 rfl ?_
          refine ix_qr _ rfl rfl rfl ?_
          exact q _ _ I' L' ((((ag_0 _ S).up (by decide)).up (by decide)).tr g (fun _ z => z)) R'
        | false =>
          have hi := of_decide_eq_false hi.symm
          simp only [if_neg hi] at q
          refine jit (pc' := 151) rfl rfl rfl (rfl) ?_
          refine jx (pc' := 152) (L' := [_, _, _, _, _, _, _]) (st' := [_]) 1 rfl ?_
          refine jcv (pc' := 155) 138 [] [] (I.ob (r := 34) AR) rfl rfl rfl rfl rfl rfl rfl rfl ?_
          refine v_stepOutward (dr := (da.1, da.2.1, da.2.2.1, da.2.2.2.1 - P, CC)) I L.up36.up35 ⟨rfl, rfl, r3, r4, (⟨by omega, by omega⟩ : zr (da.2.2.2.1 - P))⟩ h35 ⟨by dsimp only; omega, by dsimp only; omega⟩ fun h' S' I' L' g R' => jk ?_
          refine ix_qr _ rfl rfl rfl ?_
          exact q _ _ I' L' ((((ag_0 _ S).up (by decide)).up (by decide)).tr g (fun _ z => z)) R'
  refine jx (pc' := 1) (L' := [_, _, _, _, _, _, _]) (st' := [_]) 1 rfl ?_
  refine jgf (pc' := 4) (I.ob (r := a) A2) rfl rfl rfl rfl rfl ?_
  refine jcs (pc' := 7) 45 [_] [] rfl rfl rfl rfl rfl rfl rfl rfl ?_
  refine c_leastExponent I.tab r3 (jk ?_)
  refine jx (pc' := 9) (L' := [_, _, _, _, _, _, _]) (st' := [_]) 2 rfl ?_
  refine jgf (pc' := 12) (I.ob (r := a) A2) rfl rfl rfl rfl rfl ?_
  refine jx (pc' := 13) (L' := [_, _, _, _, _, _, _]) (st' := [_, _]) 1 rfl ?_
  by_cases e : da.2.2.1 = m
  · skip
    refine jct (pc' := 20) rfl rfl rfl (by rw [bc_eq]; exact decide_eq_true e) ?_
    refine jx (pc' := 21) (L' := [_, _, _, _, _, _, _]) (st' := [.int (zI 0)]) 1 rfl ?_
    exact t false (decide_eq_false (fun z => z e)).symm
  · skip
    refine jcn (pc' := 16) 20 rfl rfl rfl rfl (by rw [bc_eq]; exact decide_eq_false e) ?_
    refine jx (pc' := 21) (L' := [_, _, _, _, _, _, _]) (st' := [.int (zI 1)]) 2 rfl ?_
    exact t true (decide_eq_true e).symm
end ART
