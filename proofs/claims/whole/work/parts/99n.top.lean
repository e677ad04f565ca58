/-! ===== DecimalBits: alike, whole, log, compare, ordered, write ===== -/
def alk (A B : Dm) : Bool := if A.2.1 = 0 ∧ B.2.1 = 0 then decide (A.2.2.2.1 = B.2.2.2.1) else (decide (2 ≤ A.2.1) && decide (2 ≤ B.2.1)) || (decide (A.2.1 = 1) && decide (B.2.1 = 1))
/-- raised flags -/
def rsd (σ : Stt) (s : Nat) : Stt := (σ.1, σ.2.1, σ.2.2.1 ||| s, σ.2.2.2)
section TOP
variable {h : ix_H} {Q : ix_O → ix_H → Prop} {S : Nat → AC} {σ : Stt} {n m s f : Nat} {e : ix_C} {x y w z : Int} {a b c d : Int32} {exa qui : Bool}
abbrev cFmt (σ : Stt) (x y : Int) : Prop := (0 ≤ x ∧ x ≤ 8) ∧ (0 ≤ y ∧ y ≤ 8) ∧ (σ.1 x.toNat).1 = (σ.1 y.toNat).1
theorem v_alike (I : Inv h S) (C : Cls S σ) (hx : zr x) (hy : zr y) (q0 : ¬ cFmt σ x y → Q (.inl (some (.int (bI false)))) h) (q1 : cFmt σ x y → Q (.inl (some (.int (bI (alk (σ.1 x.toNat) (σ.1 y.toNat)))))) h) : ix_M 23 [.ref 32, .int (zI x), .int (zI y)] h Q := by
  have c1 := C.1
  obtain ⟨f33, c2, c2f⟩ := C.2.1
  refine jx (pc' := 3) (L' := [_, _, _, _, _]) (st' := [_, _, _]) 3 rfl ?_
  refine jcv (pc' := 6) 24 [_, _] [] (I.ob (r := 32) c1) rfl rfl rfl rfl rfl rfl rfl rfl ?_
  refine v_areOfOneFormat I C hx hy (jk ?_)
  by_cases hc : cFmt σ x y
  · have q1 := q1 hc
    refine jit (pc' := 11) rfl rfl rfl (by rw [bz_ne]; exact decide_eq_true hc) ?_
    have X := C.get (i := x.toNat) (by omega)
    have Y := C.get (i := y.toNat) (by omega)
    rw [(zn hx (by omega)).1, (zn hy (by omega)).1]
    refine jx (pc' := 12) (L' := [_, _, _, _, _]) (st' := [_]) 1 rfl ?_
    refine jgf (pc' := 15) (I.ob (r := 32) c1) rfl rfl rfl rfl rfl ?_
    refine jx (pc' := 16) (L' := [_, _, _, _, _]) (st' := [_, _]) 1 rfl ?_
    refine jaa (pc' := 17) (r := 33) (z := 71 + 3 * x.toNat) I c2 rfl rfl (by omega) (c2f _ (by omega)) rfl ?_
    refine jx (pc' := 19) (L' := [_, _, _, _, _]) (st' := [_]) 2 rfl ?_
    refine jgf (pc' := 22) (I.ob (r := 32) c1) rfl rfl rfl rfl rfl ?_
    refine jx (pc' := 23) (L' := [_, _, _, _, _]) (st' := [_, _]) 1 rfl ?_
    refine jaa (pc' := 24) (r := 33) (z := 71 + 3 * y.toNat) I c2 rfl rfl (by omega) (c2f _ (by omega)) rfl ?_
    generalize σ.1 x.toNat = A at *
    generalize σ.1 y.toNat = B at *
    have vX := X.2.2.2
    have vY := Y.2.2.2
    have hs1 := vX.2.1
    have hs2 := vY.2.1
    have bX := vX.b
    have bY := vY.b
    unfold alk at q1
    have t89 : ((decide (2 ≤ A.2.1) && decide (2 ≤ B.2.1)) || (decide (A.2.1 = 1) && decide (B.2.1 = 1))) = true → ¬ (A.2.1 = 0 ∧ B.2.1 = 0) → ix_E 23 89 [some (.ref 32), some (.int (nI x.toNat)), some (.int (nI y.toNat)), some (.ref (71 + 3 * x.toNat)), some (.ref (71 + 3 * y.toNat))] [] h Q := by
      intro h1 h2
      rw [if_neg h2, h1] at q1
      refine jx (pc' := 94) (L' := [_, _, _, _, _]) (st' := [.int (nI 1)]) 2 rfl ?_
      refine ix_qr _ rfl rfl rfl ?_
      exact q1
    have t93 : ((decide (2 ≤ A.2.1) && decide (2 ≤ B.2.1)) || (decide (A.2.1 = 1) && decide (B.2.1 = 1))) = false → ¬ (A.2.1 = 0 ∧ B.2.1 = 0) → ix_E 23 93 [some (.ref 32), some (.int (nI x.toNat)), some (.int (nI y.toNat)), some (.ref (71 + 3 * x.toNat)), some (.ref (71 + 3 * y.toNat))] [] h Q := by
      intro h1 h2
      rw [if_neg h2, h1] at q1
      refine jx (pc' := 94) (L' := [_, _, _, _, _]) (st' := [.int (nI 0)]) 1 rfl ?_
      refine ix_qr _ rfl rfl rfl ?_
      exact q1
    have t74 : ¬ (2 ≤ A.2.1 ∧ 2 ≤ B.2.1) → ¬ (A.2.1 = 0 ∧ B.2.1 = 0) → ix_E 23 74 [some (.ref 32), some (.int (nI x.toNat)), some (.int (nI y.toNat)), some (.ref (71 + 3 * x.toNat)), some (.ref (71 + 3 * y.toNat))] [] h Q := by
      intro h1 h2
      refine jx (pc' := 75) (L' := [_, _, _, _, _]) (st' := [_]) 1 rfl ?_
      refine jcv (pc' := 78) 78 [] [] (I.ob (r := (71+3*x.toNat)) X.2.1) rfl rfl rfl rfl rfl rfl rfl rfl ?_
      refine v_isInfinite I X.2.1 vX.2.1 (jk ?_)
      by_cases e1 : A.2.1 = 1
      · skip
        refine jin (pc' := 81) 93 rfl rfl rfl rfl (by rw [bz_eq]; simp [e1]) ?_
        refine jx (pc' := 83) (L' := [_, _, _, _, _]) (st' := [_]) 1 rfl ?_
        refine jcv (pc' := 86) 78 [] [] (I.ob (r := (71+3*y.toNat)) Y.2.1) rfl rfl rfl rfl rfl rfl rfl rfl ?_
        refine v_isInfinite I Y.2.1 vY.2.1 (jk ?_)
        by_cases e2 : B.2.1 = 1
        · skip
          refine jin (pc' := 89) 93 rfl rfl rfl rfl (by rw [bz_eq]; simp [e2]) ?_
          exact t89 (by simp [e1, e2]) h2
        · skip
          refine jit (pc' := 93) rfl rfl rfl (by rw [bz_eq]; simp [e2]) ?_
          exact t93 (by simp [e1, e2]) h2
      · skip
        refine jit (pc' := 93) rfl rfl rfl (by rw [bz_eq]; simp [e1]) ?_
        refine t93 ?_ h2
        simp [e1]
        omega
    have t59 : ¬ (A.2.1 = 0 ∧ B.2.1 = 0) → ix_E 23 59 [some (.ref 32), some (.int (nI x.toNat)), some (.int (nI y.toNat)), some (.ref (71 + 3 * x.toNat)), some (.ref (71 + 3 * y.toNat))] [] h Q := by
      intro h2
      refine jx (pc' := 60) (L' := [_, _, _, _, _]) (st' := [_]) 1 rfl ?_
      refine jcv (pc' := 63) 79 [] [] (I.ob (r := (71+3*x.toNat)) X.2.1) rfl rfl rfl rfl rfl rfl rfl rfl ?_
      refine v_isNaN I X.2.1 vX.2.1 (jk ?_)
      by_cases e1 : 2 ≤ A.2.1
      · skip
        refine jin (pc' := 66) 74 rfl rfl rfl rfl (by rw [bz_eq]; simp [e1]) ?_
        refine jx (pc' := 68) (L' := [_, _, _, _, _]) (st' := [_]) 1 rfl ?_
        refine jcv (pc' := 71) 79 [] [] (I.ob (r := (71+3*y.toNat)) Y.2.1) rfl rfl rfl rfl rfl rfl rfl rfl ?_
        refine v_isNaN I Y.2.1 vY.2.1 (jk ?_)
        by_cases e2 : 2 ≤ B.2.1
        · skip
          refine jit (pc' := 89) rfl rfl rfl (by rw [bz_ne]; simp [e2]) ?_
          exact t89 (by simp [e1, e2]) h2
        · skip
          refine jin (pc' := 74) 89 rfl rfl rfl rfl (by rw [bz_ne]; simp [e2]) ?_
          exact t74 (fun z => e2 z.2) h2
      · skip
        refine jit (pc' := 74) rfl rfl rfl (by rw [bz_eq]; simp [e1]) ?_
        exact t74 (fun z => e1 z.1) h2
    refine jx (pc' := 27) (L' := [_, _, _, _, _]) (st' := [_]) 2 rfl ?_
    refine jcv (pc' := 30) 82 [] [] (I.ob (r := (71+3*x.toNat)) X.2.1) rfl rfl rfl rfl rfl rfl rfl rfl ?_
    refine v_isFinite I X.2.1 vX.2.1 (jk ?_)
    by_cases e1 : A.2.1 = 0
    · skip
      refine jin (pc' := 33) 59 rfl rfl rfl rfl (by rw [bz_eq]; simp [e1]) ?_
      refine jx (pc' := 35) (L' := [_, _, _, _, _]) (st' := [_]) 1 rfl ?_
      refine jcv (pc' := 38) 82 [] [] (I.ob (r := (71+3*y.toNat)) Y.2.1) rfl rfl rfl rfl rfl rfl rfl rfl ?_
      refine v_isFinite I Y.2.1 vY.2.1 (jk ?_)
      by_cases e2 : B.2.1 = 0
      · rw [if_pos ⟨e1, e2⟩] at q1
        refine jin (pc' := 41) 59 rfl rfl rfl rfl (by rw [bz_eq]; simp [e2]) ?_
        refine jx (pc' := 42) (L' := [_, _, _, _, _]) (st' := [_]) 1 rfl ?_
        refine jgf (pc' := 45) (I.ob (r := (71+3*x.toNat)) X.2.1) rfl rfl rfl rfl rfl ?_
        refine jx (pc' := 47) (L' := [_, _, _, _, _]) (st' := [_, _]) 1 rfl ?_
        refine jgf (pc' := 50) (I.ob (r := (71+3*y.toNat)) Y.2.1) rfl rfl rfl rfl rfl ?_
        by_cases e3 : A.2.2.2.1 = B.2.2.2.1
        · rw [decide_eq_true e3] at q1
          refine jcn (pc' := 53) 57 rfl rfl rfl rfl (by rw [zc_ne ⟨by omega, by omega⟩ ⟨by omega, by omega⟩]; exact decide_eq_false (by omega)) ?_
          refine jx (pc' := 58) (L' := [_, _, _, _, _]) (st' := [.int (zI 1)]) 2 rfl ?_
          refine ix_qr _ rfl rfl rfl ?_
          exact q1
        · rw [decide_eq_false e3] at q1
          refine jct (pc' := 57) rfl rfl rfl (by rw [zc_ne ⟨by omega, by omega⟩ ⟨by omega, by omega⟩]; exact decide_eq_true (by omega)) ?_
          refine jx (pc' := 58) (L' := [_, _, _, _, _]) (st' := [.int (zI 0)]) 1 rfl ?_
          refine ix_qr _ rfl rfl rfl ?_
          exact q1
      · skip
        refine jit (pc' := 59) rfl rfl rfl (by rw [bz_eq]; simp [e2]) ?_
        exact t59 (fun z => e2 z.2)
    · skip
      refine jit (pc' := 59) rfl rfl rfl (by rw [bz_eq]; simp [e1]) ?_
      exact t59 (fun z => e1 z.1)
  · skip
    refine jin (pc' := 9) 11 rfl rfl rfl rfl (by rw [bz_ne]; exact decide_eq_false hc) ?_
    refine jx (pc' := 10) (L' := [_, _, _, _, _]) (st' := [.int (nI 0)]) 1 rfl ?_
    refine ix_qr _ rfl rfl rfl ?_
    exact q0 hc
theorem v_ordered (I : Inv h S) (C : Cls S σ) (G : Rm S n m e) (hx : zr x) (hy : zr y) (q0 : ¬ cFmt σ x y → ∀ h' S', Inv h' S' → Pst S S' σ (n + 1) (m + 6) e → Q (.inr (11, n)) h') (q1 : cFmt σ x y → ∀ h' S', Inv h' S' → Pst S S' σ n m e → Q (.inl (some (.int (bI (ino (σ.1 x.toNat).2.1 (σ.1 x.toNat).2.2.1 (σ.1 x.toNat).2.2.2.1 (σ.1 x.toNat).2.2.2.2 (σ.1 y.toNat).2.1 (σ.1 y.toNat).2.2.1 (σ.1 y.toNat).2.2.2.1 (σ.1 y.toNat).2.2.2.2))))) h') : ix_M 41 [.ref 32, .int (zI x), .int (zI y)] h Q := by
  have c1 := C.1
  obtain ⟨f33, c2, c2f⟩ := C.2.1
  obtain ⟨K, kw, W⟩ := C.2.2.2.1
  refine jx (pc' := 3) (L' := [_, _, _]) (st' := [_, _, _]) 3 rfl ?_
  refine jcv (pc' := 6) 24 [_, _] [] (I.ob (r := 32) c1) rfl rfl rfl rfl rfl rfl rfl rfl ?_
  refine v_areOfOneFormat I C hx hy (jk ?_)
  refine jcs (pc' := 9) 29 [_] [] rfl rfl rfl rfl rfl rfl rfl rfl ?_
  refine v_require I G (fun hb => jk ?_) (fun hb h' I' => jkt rfl ?_)
  · have hc : cFmt σ x y := of_decide_eq_true hb
    have X := C.get (i := x.toNat) (by omega)
    have Y := C.get (i := y.toNat) (by omega)
    rw [(zn hx (by omega)).1, (zn hy (by omega)).1]
    refine jx (pc' := 10) (L' := [_, _, _]) (st' := [_]) 1 rfl ?_
    refine jgf (pc' := 13) (I.ob (r := 32) c1) rfl rfl rfl rfl rfl ?_
    refine jx (pc' := 14) (L' := [_, _, _]) (st' := [_, _]) 1 rfl ?_
    refine jgf (pc' := 17) (I.ob (r := 32) c1) rfl rfl rfl rfl rfl ?_
    refine jx (pc' := 18) (L' := [_, _, _]) (st' := [_, _, _]) 1 rfl ?_
    refine jaa (pc' := 19) (r := 33) (z := 71 + 3 * x.toNat) I c2 rfl rfl (by omega) (c2f _ (by omega)) rfl ?_
    refine jx (pc' := 20) (L' := [_, _, _]) (st' := [_, _, _]) 1 rfl ?_
    refine jgf (pc' := 23) (I.ob (r := 32) c1) rfl rfl rfl rfl rfl ?_
    refine jx (pc' := 24) (L' := [_, _, _]) (st' := [_, _, _, _]) 1 rfl ?_
    refine jaa (pc' := 25) (r := 33) (z := 71 + 3 * y.toNat) I c2 rfl rfl (by omega) (c2f _ (by omega)) rfl ?_
    refine jcv (pc' := 28) 110 [_, _] [] (I.ob (r := 58) K) rfl rfl rfl rfl rfl rfl rfl rfl ?_
    refine v_inOrder (k := 58) I K W (by decide) X Y fun h1 w' I => jk ?_
    refine jrb rfl rfl ?_
    have g : ag [59] S (va_up S 59 (aN w')) := (ag_0 _ S).up (by decide)
    exact q1 hc _ _ I ⟨C.cw g ⟨_, rfl⟩, G.1, ag98 g (by decide)⟩
  · exact q0 (of_decide_eq_false hb) _ _ I' (Pst.no C)
theorem v_write (I : Inv h S) (C : Cls S σ) (G : Rm S n m e) (hx : zr x) (hl : ∀ i, i < 9 → (wtR (σ.1 i)).length ≤ 64) (q0 : ¬ (0 ≤ x ∧ x ≤ 8) → ∀ h' S', Inv h' S' → Pst S S' σ (n + 1) (m + 6) e → Q (.inr (11, n)) h') (q1 : (0 ≤ x ∧ x ≤ 8) → ∀ h' S', Inv h' S' → Pst S S' (σ.1, σ.2.1, σ.2.2.1, σ.2.2.2.1, σ.2.2.2.2.1, σ.2.2.2.2.2.1, wtR (σ.1 x.toNat)) n m e → Q (.inl (some (.int (nI (wtR (σ.1 x.toNat)).length)))) h') : ix_M 43 [.ref 32, .int (zI x)] h Q := by
  have c1 := C.1
  obtain ⟨f33, c2, c2f⟩ := C.2.1
  have W := C.2.2.2.2.2.2.1
  refine jx (pc' := 1) (L' := [_, _]) (st' := [_]) 1 rfl ?_
  refine jcs (pc' := 4) 16 [_] [] rfl rfl rfl rfl rfl rfl rfl rfl ?_
  refine c_isRegister hx (jk ?_)
  refine jcs (pc' := 7) 29 [_] [] rfl rfl rfl rfl rfl rfl rfl rfl ?_
  refine v_require I G (fun hb => jk ?_) (fun hb h' I' => jkt rfl ?_)
  · have hc := of_decide_eq_true hb
    have X := C.get (i := x.toNat) (by omega)
    rw [(zn hx (by omega)).1]
    refine jx (pc' := 8) (L' := [_, _]) (st' := [_]) 1 rfl ?_
    refine jgf (pc' := 11) (I.ob (r := 32) c1) rfl rfl rfl rfl rfl ?_
    refine jx (pc' := 12) (L' := [_, _]) (st' := [_, _]) 1 rfl ?_
    refine jgf (pc' := 15) (I.ob (r := 32) c1) rfl rfl rfl rfl rfl ?_
    refine jx (pc' := 16) (L' := [_, _]) (st' := [_, _, _]) 1 rfl ?_
    refine jaa (pc' := 17) (r := 33) (z := 71 + 3 * x.toNat) I c2 rfl rfl (by omega) (c2f _ (by omega)) rfl ?_
    refine jcv (pc' := 20) 156 [_] [] (I.ob (r := 69) W.1) rfl rfl rfl rfl rfl rfl rfl rfl ?_
    refine v_put I W X fun h1 T I g W' => jk ?_
    have C1 := C.wr g W' (hl _ (by omega))
    refine jx (pc' := 21) (L' := [_, _]) (st' := [_]) 1 rfl ?_
    refine jgf (pc' := 24) (I.ob (r := 32) C1.1) rfl rfl rfl rfl rfl ?_
    refine jgf (pc' := 27) (I.ob (r := 69) W'.1) rfl rfl rfl rfl rfl ?_
    refine jri rfl rfl ?_
    exact q1 hc _ _ I ⟨C1, g.at 0 (by decide) G.1, ag98 g (by decide)⟩
  · exact q0 (of_decide_eq_false hb) _ _ I' (Pst.no C)
end TOP
