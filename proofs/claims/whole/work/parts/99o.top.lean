/-! ===== DecimalBits: whole, log, compare, read; the length of what is written ===== -/
/-- what signalling does to the state -/
def sg (σ : Stt) (s : Nat) : Stt := (σ.1, σ.2.1, σ.2.2.1 ||| s, σ.2.2.2)
section TOP
variable {h : ix_H} {Q : ix_O → ix_H → Prop} {S : Nat → AC} {σ : Stt} {n m s f : Nat} {e : ix_C} {x y w z : Int} {exa : Bool}
theorem v_sig {mi pc pc' : Nat} {L : ix_L} {rest : List Value} (I : Inv h S) (C : Cls S σ) (G : Rm S n m e) (hs : s < 32) (hh : ix_hd mi pc 12 = some none) (q1 : s &&& σ.2.2.2.1 = 0 → ∀ h' S', Inv h' S' → Pst S S' (sg σ s) n m e → ag [32] S S' → ix_E mi pc' L rest h' Q) (q2 : ¬ s &&& σ.2.2.2.1 = 0 → ∀ h' S', Inv h' S' → Pst S S' (sg σ s) (n + 1) (m + 6) e → Q (.inr (12, n)) h') : ix_M 32 [.ref 32, .int (nI s)] h (ix_K mi pc pc' L rest Q) := by
  refine v_signal I C G hs (fun e0 h' S' I' C' g => jk ?_) (fun e0 h' S' I' C' g0 g => jkt hh ?_)
  · exact q1 e0 h' S' I' ⟨C', g.at 0 (by decide) G.1, ag98 g (by decide)⟩ g
  · exact q2 e0 h' S' I' ⟨C', g0, ag98 g (by decide)⟩
/-! whole -/
def cWh (x w : Int) : Prop := (0 ≤ x ∧ x ≤ 8) ∧ 0 ≤ w ∧ w ≤ 5
noncomputable def rWh (σ : Stt) (x w : Int) (exa : Bool) : Int × Nat := twR (if w = 5 then σ.2.1 else w.toNat) exa (σ.1 x.toNat)
theorem fl_tw (dir : Nat) (exa : Bool) (A : Dm) : (twR dir exa A).2 < 32 := by
  unfold twR
  split
  · show 1 < 32; decide
  · split
    · show 1 < 32; decide
    · show (if _ then 16 else 0) < 32
      split <;> decide
theorem v_whole (I : Inv h S) (C : Cls S σ) (G : Rm S n m e) (hx : zr x) (hw : zr w) (q0 : ¬ cWh x w → ∀ h' S', Inv h' S' → Pst S S' σ (n + 1) (m + 6) e → Q (.inr (11, n)) h') (q1 : cWh x w → (rWh σ x w exa).2 &&& σ.2.2.2.1 = 0 → ∀ h' S', Inv h' S' → Pst S S' (sg σ (rWh σ x w exa).2) n m e → Q (.inl (some (.long (zL (rWh σ x w exa).1)))) h') (q2 : cWh x w → ¬ (rWh σ x w exa).2 &&& σ.2.2.2.1 = 0 → ∀ h' S', Inv h' S' → Pst S S' (sg σ (rWh σ x w exa).2) (n + 1) (m + 6) e → Q (.inr (12, n)) h') : ix_M 38 [.ref 32, .int (zI x), .int (zI w), .int (bI exa)] h Q := by
  have c1 := C.1
  have c9 := C.2.2.2.2.2.2.2.2
  obtain ⟨f33, c2, c2f⟩ := C.2.1
  obtain ⟨L, dr, R⟩ := C.2.2.1
  obtain ⟨wn, AR⟩ := L.1
  have hx1 := hx.1
  have hx2 := hx.2
  have hw1 := hw.1
  have hw2 := hw.2
  have tB : cWh x w → ∀ d, d = (if w = 5 then σ.2.1 else w.toNat) → d < 5 → ix_E 38 37 [some (.ref 32), some (.int (zI x)), some (.int (zI w)), some (.int (bI exa)), none] [.int (nI d)] h Q := by
    intro hc d ed hd
    have cc := hc
    obtain ⟨k0, k1⟩ := hc
    have X := C.get (i := x.toNat) (by omega)
    have e1 : rWh σ x w exa = twR d exa (σ.1 x.toNat) := by rw [ed]; rfl
    rw [e1] at q1 q2
    rw [(zn hx (by omega)).1]
    refine jx (pc' := 41) (L' := [_, _, _, _, _]) (st' := [_, _]) 3 rfl ?_
    refine jgf (pc' := 44) (I.ob (r := 32) c1) rfl rfl rfl rfl rfl ?_
    refine jx (pc' := 45) (L' := [_, _, _, _, _]) (st' := [_, _, _]) 1 rfl ?_
    refine jgf (pc' := 48) (I.ob (r := 32) c1) rfl rfl rfl rfl rfl ?_
    refine jx (pc' := 49) (L' := [_, _, _, _, _]) (st' := [_, _, _, _]) 1 rfl ?_
    refine jaa (pc' := 50) (r := 33) (z := 71 + 3 * x.toNat) I c2 rfl rfl (by omega) (c2f _ (by omega)) rfl ?_
    refine jx (pc' := 53) (L' := [_, _, _, _, _]) (st' := [_, _, _, _, _]) 2 rfl ?_
    refine jcv (pc' := 56) 142 [_, _, _] [_] (I.ob (r := 34) AR) rfl rfl rfl rfl rfl rfl rfl rfl ?_
    refine v_toWhole I L X hd fun h1 T I1 L1 g W1 => jk ?_
    have I := I1
    have C1 : Cls T σ := C.ar (dr := dr) g (by decide) L1 ⟨g.at 35 (by decide) R.1, g.at 36 (by decide) R.2.1, R.2.2⟩
    refine jcv (pc' := 59) 32 [_] [] (I.ob (r := 32) (C1.1)) rfl rfl rfl rfl rfl rfl rfl rfl ?_
    refine v_sig I1 C1 ⟨g.at 0 (by decide) G.1, G.2⟩ (fl_tw _ _ _) rfl (fun e0 h' S' I' P g2 => ?_) (fun e0 h' S' I' P => ?_)
    · have I := I'
      refine jx (pc' := 60) (L' := [_, _, _, _, _]) (st' := [_]) 1 rfl ?_
      refine jgf (pc' := 63) (I.ob (r := 32) (P.1.1)) rfl rfl rfl rfl rfl ?_
      refine jgf (pc' := 66) (I.ob (r := 34) (g2.at 34 (by decide) W1)) rfl rfl rfl rfl rfl ?_
      refine ix_qr _ rfl rfl rfl ?_
      exact q1 cc e0 h' S' I' ⟨P.1, P.2.1, fun r hr => (P.2.2 r hr).trans (ag98 g (by decide) r hr)⟩
    · exact q2 cc e0 h' S' I' ⟨P.1, P.2.1, fun r hr => (P.2.2 r hr).trans (ag98 g (by decide) r hr)⟩
  have tJ : ∀ b : Bool, (b = true → cWh x w) → (b = false → ¬ cWh x w) → ix_E 38 21 [some (.ref 32), some (.int (zI x)), some (.int (zI w)), some (.int (bI exa)), none] [.int (bI b)] h Q := by
    intro b hb1 hb0
    refine jcs (pc' := 24) 29 [_] [] rfl rfl rfl rfl rfl rfl rfl rfl ?_
    refine v_require I G (fun hb => jk ?_) (fun hb h' I' => jkt rfl ?_)
    · have cc := hb1 hb
      obtain ⟨k0, k1⟩ := hb1 hb
      refine jx (pc' := 26) (L' := [_, _, _, _, _]) (st' := [.int (zI 5), _]) 2 rfl ?_
      by_cases h5 : w = 5
      · skip
        refine jcn (pc' := 29) 36 rfl rfl rfl rfl (by rw [zc_ne ⟨by omega, by omega⟩ ⟨by omega, by omega⟩]; exact decide_eq_false (by omega)) ?_
        refine jx (pc' := 30) (L' := [_, _, _, _, _]) (st' := [_]) 1 rfl ?_
        refine jgf (pc' := 33) (I.ob (r := 32) c1) rfl rfl rfl rfl rfl ?_
        refine jx (pc' := 37) (L' := [_, _, _, _, _]) (st' := [_]) 1 rfl ?_
        exact tB cc _ (by rw [if_pos h5]) c9.1
      · skip
        refine jct (pc' := 36) rfl rfl rfl (by rw [zc_ne ⟨by omega, by omega⟩ ⟨by omega, by omega⟩]; exact decide_eq_true (by omega)) ?_
        refine jx (pc' := 37) (L' := [_, _, _, _, _]) (st' := [_]) 1 rfl ?_
        rw [(zn hw (by omega)).1] at *
        have hn : w.toNat < 5 := by omega
        have := tB cc _ (by rw [if_neg h5]) hn
        exact this
    · exact q0 (hb0 hb) _ _ I' (Pst.no C)
  have tF : ¬ cWh x w → ix_E 38 20 [some (.ref 32), some (.int (zI x)), some (.int (zI w)), some (.int (bI exa)), none] [] h Q := by
    intro hc
    refine jx (pc' := 21) (L' := [_, _, _, _, _]) (st' := [.int (zI 0)]) 1 rfl ?_
    exact tJ false (fun z => nomatch z) (fun _ => hc)
  refine jx (pc' := 1) (L' := [_, _, _, _, _]) (st' := [_]) 1 rfl ?_
  refine jcs (pc' := 4) 16 [_] [] rfl rfl rfl rfl rfl rfl rfl rfl ?_
  refine c_isRegister hx (jk ?_)
  by_cases hc0 : (0 ≤ x ∧ x ≤ 8)
  · skip
    refine jin (pc' := 7) 20 rfl rfl rfl rfl (by rw [bz_eq, decide_eq_true hc0]; rfl) ?_
    refine jx (pc' := 8) (L' := [_, _, _, _, _]) (st' := [_]) 1 rfl ?_
    by_cases w0 : w < 0
    · skip
      refine jit (pc' := 20) rfl rfl rfl (by rw [zz_lt ⟨by omega, by omega⟩]; exact decide_eq_true (by omega)) ?_
      exact tF (fun zz => by have := zz.2.1; omega)
    · skip
      refine jin (pc' := 11) 20 rfl rfl rfl rfl (by rw [zz_lt ⟨by omega, by omega⟩]; exact decide_eq_false (by omega)) ?_
      refine jx (pc' := 13) (L' := [_, _, _, _, _]) (st' := [.int (zI 5), _]) 2 rfl ?_
      by_cases w5 : 5 < w
      · skip
        refine jct (pc' := 20) rfl rfl rfl (by rw [zc_gt ⟨by omega, by omega⟩ ⟨by omega, by omega⟩]; exact decide_eq_true (by omega)) ?_
        exact tF (fun zz => by have := zz.2.2; omega)
      · skip
        refine jcn (pc' := 16) 20 rfl rfl rfl rfl (by rw [zc_gt ⟨by omega, by omega⟩ ⟨by omega, by omega⟩]; exact decide_eq_false (by omega)) ?_
        refine jx (pc' := 21) (L' := [_, _, _, _, _]) (st' := [.int (zI 1)]) 2 rfl ?_
        exact tJ true (fun _ => ⟨hc0, by omega, by omega⟩) (fun z => nomatch z)
  · skip
    refine jit (pc' := 20) rfl rfl rfl (by rw [bz_eq, decide_eq_false hc0]; rfl) ?_
    exact tF (fun zz => hc0 zz.1)
/-! log -/
def bLg (d : Dm) : Prop := ¬ d.2.1 = 0 ∨ d.2.2.2.2 = 0
theorem v_log (I : Inv h S) (C : Cls S σ) (G : Rm S n m e) (hx : zr x) (q0 : ¬ (0 ≤ x ∧ x ≤ 8) → ∀ h' S', Inv h' S' → Pst S S' σ (n + 1) (m + 6) e → Q (.inr (11, n)) h') (q1 : 0 ≤ x ∧ x ≤ 8 → bLg (σ.1 x.toNat) → 1 &&& σ.2.2.2.1 = 0 → ∀ h' S', Inv h' S' → Pst S S' (sg σ 1) n m e → Q (.inl (some (.int (zI (-2147483648))))) h') (q2 : 0 ≤ x ∧ x ≤ 8 → bLg (σ.1 x.toNat) → ¬ 1 &&& σ.2.2.2.1 = 0 → ∀ h' S', Inv h' S' → Pst S S' (sg σ 1) (n + 1) (m + 6) e → Q (.inr (12, n)) h') (q3 : 0 ≤ x ∧ x ≤ 8 → ¬ bLg (σ.1 x.toNat) → Q (.inl (some (.int (zI ((dgs (σ.1 x.toNat).2.2.2.2 : Int) + (σ.1 x.toNat).2.2.2.1 - 1))))) h) : ix_M 39 [.ref 32, .int (zI x)] h Q := by
  have c1 := C.1
  obtain ⟨f33, c2, c2f⟩ := C.2.1
  refine jx (pc' := 1) (L' := [_, _, _]) (st' := [_]) 1 rfl ?_
  refine jcs (pc' := 4) 16 [_] [] rfl rfl rfl rfl rfl rfl rfl rfl ?_
  refine c_isRegister hx (jk ?_)
  refine jcs (pc' := 7) 29 [_] [] rfl rfl rfl rfl rfl rfl rfl rfl ?_
  refine v_require I G (fun hb => jk ?_) (fun hb h' I' => jkt rfl ?_)
  · have hc := of_decide_eq_true hb
    have X := C.get (i := x.toNat) (by omega)
    have q1 := q1 hc
    have q2 := q2 hc
    have q3 := q3 hc
    rw [(zn hx (by omega)).1]
    refine jx (pc' := 8) (L' := [_, _, _]) (st' := [_]) 1 rfl ?_
    refine jgf (pc' := 11) (I.ob (r := 32) c1) rfl rfl rfl rfl rfl ?_
    refine jx (pc' := 12) (L' := [_, _, _]) (st' := [_, _]) 1 rfl ?_
    refine jaa (pc' := 13) (r := 33) (z := 71 + 3 * x.toNat) I c2 rfl rfl (by omega) (c2f _ (by omega)) rfl ?_
    have vX := X.2.2.2
    have bX := vX.b
    generalize σ.1 x.toNat = A at *
    have tB : bLg A → ix_E 39 28 [some (.ref 32), some (.int (nI x.toNat)), some (.ref (71 + 3 * x.toNat))] [] h Q := by
      intro hb
      refine jx (pc' := 30) (L' := [_, _, _]) (st' := [.int (nI 1), _]) 2 rfl ?_
      refine jcv (pc' := 33) 32 [.int (nI 1)] [] (I.ob (r := 32) c1) rfl rfl rfl rfl rfl rfl rfl rfl ?_
      refine v_sig I C G (by decide) rfl (fun e0 h' S' I' P g2 => ?_) (fun e0 h' S' I' P => q2 hb e0 _ _ I' P)
      refine jx (pc' := 35) (L' := [_, _, _]) (st' := [_]) 1 rfl ?_
      try simp (disch := omega) only [nI_add, nI_mul, nI_sub, Nat.zero_mul, Nat.one_mul, Nat.sub_zero, Nat.add_zero, Nat.zero_add, Nat.add_sub_cancel]
      refine jri rfl rfl ?_
      exact q1 hb e0 _ _ I' P
    refine jx (pc' := 15) (L' := [_, _, _]) (st' := [_]) 2 rfl ?_
    refine jcv (pc' := 18) 82 [] [] (I.ob (r := (71+3*x.toNat)) X.2.1) rfl rfl rfl rfl rfl rfl rfl rfl ?_
    refine v_isFinite I X.2.1 vX.2.1 (jk ?_)
    by_cases e0 : A.2.1 = 0
    · skip
      refine jin (pc' := 21) 28 rfl rfl rfl rfl (by rw [bz_eq]; simp [e0]) ?_
      refine jx (pc' := 22) (L' := [_, _, _]) (st' := [_]) 1 rfl ?_
      refine jcv (pc' := 25) 80 [] [] (I.ob (r := (71+3*x.toNat)) X.2.1) rfl rfl rfl rfl rfl rfl rfl rfl ?_
      refine v_isZero I X.2.1 X.2.2.1 vX.2.1 (jk ?_)
      by_cases ec : A.2.2.2.2 = 0
      · skip
        refine jin (pc' := 28) 36 rfl rfl rfl rfl (by rw [bz_eq]; simp [e0, ec]) ?_
        exact tB (Or.inr ec)
      · skip
        refine jit (pc' := 36) rfl rfl rfl (by rw [bz_eq]; simp [e0, ec]) ?_
        refine jx (pc' := 37) (L' := [_, _, _]) (st' := [_]) 1 rfl ?_
        refine jgf (pc' := 40) (I.ob (r := (71+3*x.toNat)) X.2.1) rfl rfl rfl rfl rfl ?_
        refine jcv (pc' := 43) 52 [] [] (I.no (r := (71+3*x.toNat+1)) X.2.2.1) rfl rfl rfl rfl rfl rfl rfl rfl ?_
        refine v_digits I X.2.2.1 fun hd => jk ?_
        refine jx (pc' := 44) (L' := [_, _, _]) (st' := [_, _]) 1 rfl ?_
        refine jgf (pc' := 47) (I.ob (r := (71+3*x.toNat)) X.2.1) rfl rfl rfl rfl rfl ?_
        rw [nz (dgs _)]
        refine jx (pc' := 50) (L' := [_, _, _]) (st' := [_]) 3 rfl ?_
        try simp (disch := omega) only [kz, kzl0, kzl1, kzb, kzs, zI_add, zI_sub, zI_neg, zI_mul, zL_i, zI_l, zL_add, zL_sub, zL_neg]
        refine jri rfl rfl ?_
        exact q3 (fun zz => zz.elim (fun k => k e0) ec)
    · skip
      refine jit (pc' := 28) rfl rfl rfl (by rw [bz_eq]; simp [e0]) ?_
      exact tB (Or.inl e0)
  · exact q0 (of_decide_eq_false hb) _ _ I' (Pst.no C)
/-! compare -/
def nnC (A B : Dm) : Prop := ¬ 2 ≤ A.2.1 ∧ ¬ 2 ≤ B.2.1
noncomputable def vlC (A B : Dm) : Int := vls A.2.1 A.2.2.1 A.2.2.2.1 A.2.2.2.2 B.2.1 B.2.2.1 B.2.2.2.1 B.2.2.2.2
def sgC (A B : Dm) (qt : Bool) : Nat := if A.2.1 = 2 ∨ B.2.1 = 2 ∨ qt = false then 1 else 0
theorem v_compare {qt : Bool} (I : Inv h S) (C : Cls S σ) (G : Rm S n m e) (hx : zr x) (hy : zr y) (q0 : ¬ cFmt σ x y → ∀ h' S', Inv h' S' → Pst S S' σ (n + 1) (m + 6) e → Q (.inr (11, n)) h') (q1 : cFmt σ x y → nnC (σ.1 x.toNat) (σ.1 y.toNat) → ∀ h' S', Inv h' S' → Pst S S' σ n m e → Q (.inl (some (.int (zI (vlC (σ.1 x.toNat) (σ.1 y.toNat)))))) h') (q2 : cFmt σ x y → ¬ nnC (σ.1 x.toNat) (σ.1 y.toNat) → sgC (σ.1 x.toNat) (σ.1 y.toNat) qt &&& σ.2.2.2.1 = 0 → ∀ h' S', Inv h' S' → Pst S S' (sg σ (sgC (σ.1 x.toNat) (σ.1 y.toNat) qt)) n m e → Q (.inl (some (.int (nI 2)))) h') (q3 : cFmt σ x y → ¬ nnC (σ.1 x.toNat) (σ.1 y.toNat) → ¬ sgC (σ.1 x.toNat) (σ.1 y.toNat) qt &&& σ.2.2.2.1 = 0 → ∀ h' S', Inv h' S' → Pst S S' (sg σ (sgC (σ.1 x.toNat) (σ.1 y.toNat) qt)) (n + 1) (m + 6) e → Q (.inr (12, n)) h') : ix_M 40 [.ref 32, .int (zI x), .int (zI y), .int (bI qt)] h Q := by
  have c1 := C.1
  obtain ⟨f33, c2, c2f⟩ := C.2.1
  obtain ⟨K, ⟨W, WW⟩⟩ := C.2.2.2.1
  refine jx (pc' := 3) (L' := [_, _, _, _, _, _, _]) (st' := [_, _, _]) 3 rfl ?_
  refine jcv (pc' := 6) 24 [_, _] [] (I.ob (r := 32) c1) rfl rfl rfl rfl rfl rfl rfl rfl ?_
  refine v_areOfOneFormat I C hx hy (jk ?_)
  refine jcs (pc' := 9) 29 [_] [] rfl rfl rfl rfl rfl rfl rfl rfl ?_
  refine v_require I G (fun hb => jk ?_) (fun hb h' I' => jkt rfl ?_)
  · have hc : cFmt σ x y := of_decide_eq_true hb
    have hc' : (0 ≤ x ∧ x ≤ 8) ∧ (0 ≤ y ∧ y ≤ 8) ∧ (σ.1 x.toNat).1 = (σ.1 y.toNat).1 := hc
    have X := C.get (i := x.toNat) (by omega)
    have Y := C.get (i := y.toNat) (by omega)
    have q1 := q1 hc
    have q2 := q2 hc
    have q3 := q3 hc
    rw [(zn hx (by omega)).1, (zn hy (by omega)).1]
    refine jx (pc' := 10) (L' := [_, _, _, _, _, _, _]) (st' := [_]) 1 rfl ?_
    refine jgf (pc' := 13) (I.ob (r := 32) c1) rfl rfl rfl rfl rfl ?_
    refine jx (pc' := 14) (L' := [_, _, _, _, _, _, _]) (st' := [_, _]) 1 rfl ?_
    refine jaa (pc' := 15) (r := 33) (z := 71 + 3 * x.toNat) I c2 rfl rfl (by omega) (c2f _ (by omega)) rfl ?_
    refine jx (pc' := 18) (L' := [_, _, _, _, _, _, _]) (st' := [_]) 2 rfl ?_
    refine jgf (pc' := 21) (I.ob (r := 32) c1) rfl rfl rfl rfl rfl ?_
    refine jx (pc' := 22) (L' := [_, _, _, _, _, _, _]) (st' := [_, _]) 1 rfl ?_
    refine jaa (pc' := 23) (r := 33) (z := 71 + 3 * y.toNat) I c2 rfl rfl (by omega) (c2f _ (by omega)) rfl ?_
    have vX := X.2.2.2
    have vY := Y.2.2.2
    have sX := vX.2.1
    have sY := vY.2.1
    clear hc' q0 hb
    generalize σ.1 x.toNat = A at *
    generalize σ.1 y.toNat = B at *
    have t93 : ¬ nnC A B → ∀ s (sgl : Int32), s = sgC A B qt → ix_E 40 93 [some (.ref 32), some (.int (nI x.toNat)), some (.int (nI y.toNat)), some (.int (bI qt)), some (.ref (71 + 3 * x.toNat)), some (.ref (71 + 3 * y.toNat)), some (.int sgl)] [.int (nI s), .ref 32] h Q := by
      intro hn s sgl es
      subst es
      refine jcv (pc' := 96) 32 [_] [] (I.ob (r := 32) c1) rfl rfl rfl rfl rfl rfl rfl rfl ?_
      refine v_sig I C G (by unfold sgC; split <;> decide) rfl (fun e0 h' S' I' P g2 => ?_) (fun e0 h' S' I' P => q3 hn e0 _ _ I' P)
      refine jx (pc' := 97) (L' := [_, _, _, _, _, _, _]) (st' := [.int (nI 2)]) 1 rfl ?_
      refine jri rfl rfl ?_
      exact q2 hn e0 _ _ I' P
    have t88 : ¬ nnC A B → 1 = sgC A B qt → ∀ (sgl : Int32), ix_E 40 88 [some (.ref 32), some (.int (nI x.toNat)), some (.int (nI y.toNat)), some (.int (bI qt)), some (.ref (71 + 3 * x.toNat)), some (.ref (71 + 3 * y.toNat)), some (.int sgl)] [.ref 32] h Q := by
      intro hn es sgl
      refine jx (pc' := 93) (L' := [_, _, _, _, _, _, _]) (st' := [.int (nI 1), _]) 2 rfl ?_
      exact t93 hn _ _ es
    have t71 : ¬ nnC A B → (A.2.1 = 2 ∨ B.2.1 = 2) → ix_E 40 71 [some (.ref 32), some (.int (nI x.toNat)), some (.int (nI y.toNat)), some (.int (bI qt)), some (.ref (71 + 3 * x.toNat)), some (.ref (71 + 3 * y.toNat)), none] [] h Q := by
      intro hn hs
      refine jx (pc' := 81) (L' := [_, _, _, _, _, _, _]) (st' := [_, _]) 5 rfl ?_
      try simp (disch := omega) only [ki1, nI_add, nI_mul, nI_sub, Nat.zero_mul, Nat.one_mul, Nat.sub_zero, Nat.add_zero, Nat.zero_add, Nat.add_sub_cancel]
      refine jit (pc' := 88) rfl rfl rfl (by rw [cz_ne (by omega)]; exact decide_eq_true (by omega)) ?_
      exact t88 hn (by unfold sgC; rw [if_pos (hs.elim Or.inl (fun z => Or.inr (Or.inl z)))]) _
    have t53 : ¬ nnC A B → ix_E 40 53 [some (.ref 32), some (.int (nI x.toNat)), some (.int (nI y.toNat)), some (.int (bI qt)), some (.ref (71 + 3 * x.toNat)), some (.ref (71 + 3 * y.toNat)), none] [] h Q := by
      intro hn
      refine jx (pc' := 55) (L' := [_, _, _, _, _, _, _]) (st' := [_]) 1 rfl ?_
      refine jgf (pc' := 58) (I.ob (r := (71+3*x.toNat)) X.2.1) rfl rfl rfl rfl rfl ?_
      refine jx (pc' := 59) (L' := [_, _, _, _, _, _, _]) (st' := [.int (nI 2), _]) 1 rfl ?_
      by_cases e1 : A.2.1 = 2
      · skip
        refine jct (pc' := 71) rfl rfl rfl (by rw [cc_eq (by omega) (by omega)]; exact decide_eq_true (by omega)) ?_
        exact t71 hn (Or.inl e1)
      · skip
        refine jcn (pc' := 62) 71 rfl rfl rfl rfl (by rw [cc_eq (by omega) (by omega)]; exact decide_eq_false (by omega)) ?_
        refine jx (pc' := 64) (L' := [_, _, _, _, _, _, _]) (st' := [_]) 1 rfl ?_
        refine jgf (pc' := 67) (I.ob (r := (71+3*y.toNat)) Y.2.1) rfl rfl rfl rfl rfl ?_
        refine jx (pc' := 68) (L' := [_, _, _, _, _, _, _]) (st' := [.int (nI 2), _]) 1 rfl ?_
        by_cases e2 : B.2.1 = 2
        · skip
          refine jcn (pc' := 71) 75 rfl rfl rfl rfl (by rw [cc_ne (by omega) (by omega)]; exact decide_eq_false (by omega)) ?_
          exact t71 hn (Or.inr e2)
        · skip
          refine jct (pc' := 75) rfl rfl rfl (by rw [cc_ne (by omega) (by omega)]; exact decide_eq_true (by omega)) ?_
          refine jx (pc' := 81) (L' := [_, _, _, _, _, _, _]) (st' := [_, _]) 4 rfl ?_
          try simp (disch := omega) only [ki0, nI_add, nI_mul, nI_sub, Nat.zero_mul, Nat.one_mul, Nat.sub_zero, Nat.add_zero, Nat.zero_add, Nat.add_sub_cancel]
          refine jin (pc' := 84) 88 rfl rfl rfl rfl (by rw [cz_ne (by omega)]; exact decide_eq_false (by omega)) ?_
          refine jx (pc' := 85) (L' := [_, _, _, _, _, _, _]) (st' := [_, _]) 1 rfl ?_
          cases qt
          · skip
            refine jin (pc' := 88) 92 rfl rfl rfl rfl (by rfl) ?_
            exact t88 hn (by unfold sgC; rw [if_pos (Or.inr (Or.inr rfl))]) _
          · skip
            refine jit (pc' := 92) rfl rfl rfl (by rfl) ?_
            refine jx (pc' := 93) (L' := [_, _, _, _, _, _, _]) (st' := [.int (nI 0), _]) 1 rfl ?_
            exact t93 hn _ _ (by unfold sgC; rw [if_neg]; intro zz; exact zz.elim e1 (fun k => k.elim e2 (fun k => nomatch k)))
    refine jx (pc' := 27) (L' := [_, _, _, _, _, _, _]) (st' := [_]) 2 rfl ?_
    refine jcv (pc' := 30) 79 [] [] (I.ob (r := (71+3*x.toNat)) X.2.1) rfl rfl rfl rfl rfl rfl rfl rfl ?_
    refine v_isNaN I X.2.1 vX.2.1 (jk ?_)
    by_cases n1 : 2 ≤ A.2.1
    · skip
      refine jit (pc' := 53) rfl rfl rfl (by rw [bz_ne]; exact decide_eq_true n1) ?_
      exact t53 (fun zz => zz.1 n1)
    · skip
      refine jin (pc' := 33) 53 rfl rfl rfl rfl (by rw [bz_ne, decide_eq_false n1]) ?_
      refine jx (pc' := 35) (L' := [_, _, _, _, _, _, _]) (st' := [_]) 1 rfl ?_
      refine jcv (pc' := 38) 79 [] [] (I.ob (r := (71+3*y.toNat)) Y.2.1) rfl rfl rfl rfl rfl rfl rfl rfl ?_
      refine v_isNaN I Y.2.1 vY.2.1 (jk ?_)
      by_cases n2 : 2 ≤ B.2.1
      · skip
        refine jit (pc' := 53) rfl rfl rfl (by rw [bz_ne]; exact decide_eq_true n2) ?_
        exact t53 (fun zz => zz.2 n2)
      · skip
        refine jin (pc' := 41) 53 rfl rfl rfl rfl (by rw [bz_ne, decide_eq_false n2]) ?_
        refine jx (pc' := 42) (L' := [_, _, _, _, _, _, _]) (st' := [_]) 1 rfl ?_
        refine jgf (pc' := 45) (I.ob (r := 32) c1) rfl rfl rfl rfl rfl ?_
        refine jx (pc' := 49) (L' := [_, _, _, _, _, _, _]) (st' := [_, _, _]) 2 rfl ?_
        refine jcv (pc' := 52) 109 [_, _] [] (I.ob (r := 58) K) rfl rfl rfl rfl rfl rfl rfl rfl ?_
        refine v_values (k := 58) I K WW (by decide) X Y (by omega) (by omega) fun h1 w' I => jk ?_
        refine jri rfl rfl ?_
        have g : ag [59] S (va_up S 59 (aN w')) := (ag_0 _ S).up (by decide)
        exact q1 ⟨n1, n2⟩ _ _ I ⟨C.cw g ⟨_, rfl⟩, G.1, ag98 g (by decide)⟩
  · exact q0 (of_decide_eq_false hb) _ _ I' (Pst.no C)
end TOP
