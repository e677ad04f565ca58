/-! ===== DecimalBits: fused, one, scale, convert, number (printed by gentop.py) ===== -/
theorem fl_o3 {dir : Nat} {A B C : Dm} (vA : ValD A) : (o3R dir A B C).2 < 32 := by
  unfold o3R
  split
  · exact b1_32 _
  · split
    · exact (by decide : 1 < 32)
    · split
      · split
        · exact (by decide : 1 < 32)
        · exact (by decide : 0 < 32)
      · split
        · exact (by decide : 0 < 32)
        · exact rdo_f vA.1 fun x hx => nomatch hx
theorem fl_o1 {what dir : Nat} {A : Dm} (vA : ValD A) : (o1R what dir A).2 < 32 := by
  unfold o1R
  split
  · exact (by decide : 0 < 32)
  · split
    · exact b1_32 _
    · split
      · refine rdo_f vA.1 fun x hx => ?_
        unfold roR at hx
        split at hx
        · cases hx; dsimp only; decide
        · split at hx
          · cases hx; dsimp only; decide
          · split at hx <;> cases hx
      · split
        · exact ite32 (by decide) (by decide)
        · split
          · exact (by decide : 0 < 32)
          · split
            · exact (by decide : 0 < 32)
            · split <;> exact (by decide : 0 < 32)
theorem fl_sc {dir : Nat} {n : Int} {A : Dm} (vA : ValD A) : (scR dir n A).2 < 32 := by
  unfold scR
  split
  · exact b1_32 _
  · split
    · exact (by decide : 0 < 32)
    · exact rdo_f vA.1 fun x hx => nomatch hx
theorem fl_cv {dir f : Nat} {A : Dm} (hf : f < 3) : (cvR dir f A).2 < 32 := by
  unfold cvR
  split
  · exact b1_32 _
  · split
    · exact (by decide : 0 < 32)
    · exact rdo_f hf fun x hx => nomatch hx
theorem fl_fw {dir f : Nat} {v : Int} (hf : f < 3) : (fwR dir f v).2 < 32 := by
  unfold fwR
  exact rdo_f hf fun x hx => nomatch hx
theorem fl_ft {dir f so D : Nat} {ng : Bool} {ex : Int} (hf : f < 3) : (ftR dir f so ng ex D).2 < 32 := by
  unfold ftR
  split
  · exact (by decide : 0 < 32)
  · exact rdo_f hf fun x hx => nomatch hx
section TOP
variable {h : ix_H} {Q : ix_O → ix_H → Prop} {S : Nat → AC} {σ : Stt} {n m s d f : Nat} {e : ix_C} {r : Dm}
def cFused (σ : Stt) (x : Int) (y : Int) (z : Int) (w : Int) : Prop := (0 ≤ x ∧ x < 8) ∧ ((0 ≤ y ∧ y ≤ 8) ∧ (0 ≤ z ∧ z ≤ 8) ∧ (σ.1 y.toNat).1 = (σ.1 z.toNat).1) ∧ ((0 ≤ z ∧ z ≤ 8) ∧ (0 ≤ w ∧ w ≤ 8) ∧ (σ.1 z.toNat).1 = (σ.1 w.toNat).1)
noncomputable def rFused (σ : Stt) (x : Int) (y : Int) (z : Int) (w : Int) : Dm × Nat := o3R σ.2.1 (σ.1 y.toNat) (σ.1 z.toNat) (σ.1 w.toNat)
theorem v_Fused {x : Int} {y : Int} {z : Int} {w : Int} (I : Inv h S) (C : Cls S σ) (G : Rm S n m e) (hx : zr x) (hy : zr y) (hz : zr z) (hw : zr w) (q0 : ¬ cFused σ x y z w → ∀ h' S', Inv h' S' → Pst S S' σ (n + 1) (m + 6) e → Q (.inr (11, n)) h') (q1 : cFused σ x y z w → (rFused σ x y z w).2 &&& σ.2.2.2.1 = 0 → ∀ h' S', Inv h' S' → Pst S S' (dv2 σ x.toNat (rFused σ x y z w).1 (rFused σ x y z w).2) n m e → Q (.inl (some (.int (nI (rFused σ x y z w).2)))) h') (q2 : cFused σ x y z w → ¬ (rFused σ x y z w).2 &&& σ.2.2.2.1 = 0 → ∀ h' S', Inv h' S' → Pst S S' (dv1 σ (rFused σ x y z w).1 (rFused σ x y z w).2) (n + 1) (m + 6) e → Q (.inr (12, n)) h') : ix_M 33 [.ref 32, .int (zI x), .int (zI y), .int (zI z), .int (zI w)] h Q := by
  have c1 := C.1
  have c9 := C.2.2.2.2.2.2.2.2
  obtain ⟨f33, c2, c2f⟩ := C.2.1
  obtain ⟨L, dr, R⟩ := C.2.2.1
  obtain ⟨wn, AR⟩ := L.1
  have hx1 := hx.1
  have hx2 := hx.2
  have hy1 := hy.1
  have hy2 := hy.2
  have hz1 := hz.1
  have hz2 := hz.2
  have hw1 := hw.1
  have hw2 := hw.2
  have tJ : ∀ b : Bool, (b = true → cFused σ x y z w) → (b = false → ¬ cFused σ x y z w) → ix_E 33 31 [some (.ref 32), some (.int (zI x)), some (.int (zI y)), some (.int (zI z)), some (.int (zI w))] [.int (bI b)] h Q := by
    intro b hb1 hb0
    refine jcs (pc' := 34) 29 [_] [] rfl rfl rfl rfl rfl rfl rfl rfl ?_
    refine v_require I G (fun hb => jk ?_) (fun hb h' I' => jkt rfl ?_)
    · have cc := hb1 hb
      obtain ⟨k0, k1, k2⟩ := hb1 hb
      have X := C.get (i := y.toNat) (by omega)
      have Y := C.get (i := z.toNat) (by omega)
      have Z := C.get (i := w.toNat) (by omega)
      rw [(zn hx (by omega)).1, (zn hy (by omega)).1, (zn hz (by omega)).1, (zn hw (by omega)).1]
      refine jx (pc' := 37) (L' := [_, _, _, _, _]) (st' := [_, _, _]) 3 rfl ?_
      refine jgf (pc' := 40) (I.ob (r := 32) c1) rfl rfl rfl rfl rfl ?_
      refine jx (pc' := 41) (L' := [_, _, _, _, _]) (st' := [_, _, _, _]) 1 rfl ?_
      refine jgf (pc' := 44) (I.ob (r := 32) c1) rfl rfl rfl rfl rfl ?_
      refine jx (pc' := 45) (L' := [_, _, _, _, _]) (st' := [_, _, _, _, _]) 1 rfl ?_
      refine jaa (pc' := 46) (r := 33) (z := 71 + 3 * y.toNat) I c2 rfl rfl (by omega) (c2f _ (by omega)) rfl ?_
      refine jx (pc' := 47) (L' := [_, _, _, _, _]) (st' := [_, _, _, _, _]) 1 rfl ?_
      refine jgf (pc' := 50) (I.ob (r := 32) c1) rfl rfl rfl rfl rfl ?_
      refine jx (pc' := 51) (L' := [_, _, _, _, _]) (st' := [_, _, _, _, _, _]) 1 rfl ?_
      refine jaa (pc' := 52) (r := 33) (z := 71 + 3 * z.toNat) I c2 rfl rfl (by omega) (c2f _ (by omega)) rfl ?_
      refine jx (pc' := 53) (L' := [_, _, _, _, _]) (st' := [_, _, _, _, _, _]) 1 rfl ?_
      refine jgf (pc' := 56) (I.ob (r := 32) c1) rfl rfl rfl rfl rfl ?_
      refine jx (pc' := 58) (L' := [_, _, _, _, _]) (st' := [_, _, _, _, _, _, _]) 1 rfl ?_
      refine jaa (pc' := 59) (r := 33) (z := 71 + 3 * w.toNat) I c2 rfl rfl (by omega) (c2f _ (by omega)) rfl ?_
      refine jx (pc' := 60) (L' := [_, _, _, _, _]) (st' := [_, _, _, _, _, _, _]) 1 rfl ?_
      refine jgf (pc' := 63) (I.ob (r := 32) c1) rfl rfl rfl rfl rfl ?_
      refine jcv (pc' := 66) 131 [_, _, _, _] [_, _] (I.ob (r := 34) AR) rfl rfl rfl rfl rfl rfl rfl rfl ?_
      refine v_ofThree I L R X Y Z c9.1 fun h1 T I1 L1 g R1 => jk ?_
      have hv : ValD (rFused σ x y z w).1 := val_o3 (C.vd (i := y.toNat) (by omega)) (C.vd (i := z.toNat) (by omega)) (C.vd (i := w.toNat) (by omega))
      have hfl : (rFused σ x y z w).2 < 32 := fl_o3 (C.vd (i := y.toNat) (by omega))
      have I := I1
      refine jcv (pc' := 69) 31 [_, _] [] (I.ob (r := 32) (g.at 32 (by decide) c1)) rfl rfl rfl rfl rfl rfl rfl rfl ?_
      refine v_ret T arl g arl_b I1 C G L1 R1 (by omega) hv hfl rfl (fun e0 h' S' I' P => ?_) (fun e0 h' S' I' P => ?_)
      · refine jri rfl rfl ?_
        exact q1 cc e0 h' S' I' P
      · exact q2 cc e0 h' S' I' P
    · exact q0 (hb0 hb) _ _ I' (Pst.no C)
  have tF : ¬ cFused σ x y z w → ix_E 33 30 [some (.ref 32), some (.int (zI x)), some (.int (zI y)), some (.int (zI z)), some (.int (zI w))] [] h Q := by
    intro hc
    refine jx (pc' := 31) (L' := [_, _, _, _, _]) (st' := [.int (nI 0)]) 1 rfl ?_
    exact tJ false (fun z => nomatch z) (fun _ => hc)
  refine jx (pc' := 1) (L' := [_, _, _, _, _]) (st' := [_]) 1 rfl ?_
  refine jcs (pc' := 4) 28 [_] [] rfl rfl rfl rfl rfl rfl rfl rfl ?_
  refine c_isTarget hx (jk ?_)
  by_cases hc0 : (0 ≤ x ∧ x < 8)
  · skip
    refine jin (pc' := 7) 30 rfl rfl rfl rfl (by rw [bz_eq, decide_eq_true hc0]; rfl) ?_
    refine jx (pc' := 10) (L' := [_, _, _, _, _]) (st' := [_, _, _]) 3 rfl ?_
    refine jcv (pc' := 13) 24 [_, _] [] (I.ob (r := 32) c1) rfl rfl rfl rfl rfl rfl rfl rfl ?_
    refine v_areOfOneFormat I C hy hz (jk ?_)
    by_cases hc1 : ((0 ≤ y ∧ y ≤ 8) ∧ (0 ≤ z ∧ z ≤ 8) ∧ (σ.1 y.toNat).1 = (σ.1 z.toNat).1)
    · skip
      refine jin (pc' := 16) 30 rfl rfl rfl rfl (by rw [bz_eq, decide_eq_true hc1]; rfl) ?_
      refine jx (pc' := 20) (L' := [_, _, _, _, _]) (st' := [_, _, _]) 3 rfl ?_
      refine jcv (pc' := 23) 24 [_, _] [] (I.ob (r := 32) c1) rfl rfl rfl rfl rfl rfl rfl rfl ?_
      refine v_areOfOneFormat I C hz hw (jk ?_)
      by_cases hc2 : ((0 ≤ z ∧ z ≤ 8) ∧ (0 ≤ w ∧ w ≤ 8) ∧ (σ.1 z.toNat).1 = (σ.1 w.toNat).1)
      · skip
        refine jin (pc' := 26) 30 rfl rfl rfl rfl (by rw [bz_eq, decide_eq_true hc2]; rfl) ?_
        refine jx (pc' := 31) (L' := [_, _, _, _, _]) (st' := [.int (zI 1)]) 2 rfl ?_
        exact tJ true (fun _ => ⟨hc0, hc1, hc2⟩) (fun z => nomatch z)
      · skip
        refine jit (pc' := 30) rfl rfl rfl (by rw [bz_eq, decide_eq_false hc2]; rfl) ?_
        exact tF (fun zz => hc2 zz.2.2)
    · skip
      refine jit (pc' := 30) rfl rfl rfl (by rw [bz_eq, decide_eq_false hc1]; rfl) ?_
      exact tF (fun zz => hc1 zz.2.1)
  · skip
    refine jit (pc' := 30) rfl rfl rfl (by rw [bz_eq, decide_eq_false hc0]; rfl) ?_
    exact tF (fun zz => hc0 zz.1)
def cOne (σ : Stt) (w : Int) (x : Int) (y : Int) : Prop := (0 ≤ w ∧ w ≤ 11) ∧ (0 ≤ x ∧ x < 8) ∧ (0 ≤ y ∧ y ≤ 8)
noncomputable def rOne (σ : Stt) (w : Int) (x : Int) (y : Int) : Dm × Nat := o1R w.toNat σ.2.1 (σ.1 y.toNat)
theorem v_One {w : Int} {x : Int} {y : Int} (I : Inv h S) (C : Cls S σ) (G : Rm S n m e) (hw : zr w) (hx : zr x) (hy : zr y) (q0 : ¬ cOne σ w x y → ∀ h' S', Inv h' S' → Pst S S' σ (n + 1) (m + 6) e → Q (.inr (11, n)) h') (q1 : cOne σ w x y → (rOne σ w x y).2 &&& σ.2.2.2.1 = 0 → ∀ h' S', Inv h' S' → Pst S S' (dv2 σ x.toNat (rOne σ w x y).1 (rOne σ w x y).2) n m e → Q (.inl (some (.int (nI (rOne σ w x y).2)))) h') (q2 : cOne σ w x y → ¬ (rOne σ w x y).2 &&& σ.2.2.2.1 = 0 → ∀ h' S', Inv h' S' → Pst S S' (dv1 σ (rOne σ w x y).1 (rOne σ w x y).2) (n + 1) (m + 6) e → Q (.inr (12, n)) h') : ix_M 34 [.ref 32, .int (zI w), .int (zI x), .int (zI y)] h Q := by
  have c1 := C.1
  have c9 := C.2.2.2.2.2.2.2.2
  obtain ⟨f33, c2, c2f⟩ := C.2.1
  obtain ⟨L, dr, R⟩ := C.2.2.1
  obtain ⟨wn, AR⟩ := L.1
  have hw1 := hw.1
  have hw2 := hw.2
  have hx1 := hx.1
  have hx2 := hx.2
  have hy1 := hy.1
  have hy2 := hy.2
  have tJ : ∀ b : Bool, (b = true → cOne σ w x y) → (b = false → ¬ cOne σ w x y) → ix_E 34 29 [some (.ref 32), some (.int (zI w)), some (.int (zI x)), some (.int (zI y))] [.int (bI b)] h Q := by
    intro b hb1 hb0
    refine jcs (pc' := 32) 29 [_] [] rfl rfl rfl rfl rfl rfl rfl rfl ?_
    refine v_require I G (fun hb => jk ?_) (fun hb h' I' => jkt rfl ?_)
    · have cc := hb1 hb
      obtain ⟨k0, k1, k2⟩ := hb1 hb
      have X := C.get (i := y.toNat) (by omega)
      rw [(zn hw (by omega)).1, (zn hx (by omega)).1, (zn hy (by omega)).1]
      refine jx (pc' := 35) (L' := [_, _, _, _]) (st' := [_, _, _]) 3 rfl ?_
      refine jgf (pc' := 38) (I.ob (r := 32) c1) rfl rfl rfl rfl rfl ?_
      refine jx (pc' := 40) (L' := [_, _, _, _]) (st' := [_, _, _, _, _]) 2 rfl ?_
      refine jgf (pc' := 43) (I.ob (r := 32) c1) rfl rfl rfl rfl rfl ?_
      refine jx (pc' := 44) (L' := [_, _, _, _]) (st' := [_, _, _, _, _, _]) 1 rfl ?_
      refine jaa (pc' := 45) (r := 33) (z := 71 + 3 * y.toNat) I c2 rfl rfl (by omega) (c2f _ (by omega)) rfl ?_
      refine jx (pc' := 46) (L' := [_, _, _, _]) (st' := [_, _, _, _, _, _]) 1 rfl ?_
      refine jgf (pc' := 49) (I.ob (r := 32) c1) rfl rfl rfl rfl rfl ?_
      refine jcv (pc' := 52) 132 [_, _, _] [_, _] (I.ob (r := 34) AR) rfl rfl rfl rfl rfl rfl rfl rfl ?_
      refine v_ofOne I L R X c9.1 (by omega) fun h1 T I1 L1 g R1 => jk ?_
      have hv : ValD (rOne σ w x y).1 := val_o1 (C.vd (i := y.toNat) (by omega))
      have hfl : (rOne σ w x y).2 < 32 := fl_o1 (C.vd (i := y.toNat) (by omega))
      have I := I1
      refine jcv (pc' := 55) 31 [_, _] [] (I.ob (r := 32) (g.at 32 (by decide) c1)) rfl rfl rfl rfl rfl rfl rfl rfl ?_
      refine v_ret T arl g arl_b I1 C G L1 R1 (by omega) hv hfl rfl (fun e0 h' S' I' P => ?_) (fun e0 h' S' I' P => ?_)
      · refine jri rfl rfl ?_
        exact q1 cc e0 h' S' I' P
      · exact q2 cc e0 h' S' I' P
    · exact q0 (hb0 hb) _ _ I' (Pst.no C)
  have tF : ¬ cOne σ w x y → ix_E 34 28 [some (.ref 32), some (.int (zI w)), some (.int (zI x)), some (.int (zI y))] [] h Q := by
    intro hc
    refine jx (pc' := 29) (L' := [_, _, _, _]) (st' := [.int (nI 0)]) 1 rfl ?_
    exact tJ false (fun z => nomatch z) (fun _ => hc)
  refine jx (pc' := 1) (L' := [_, _, _, _]) (st' := [_]) 1 rfl ?_
  by_cases lo0 : w < 0
  · skip
    refine jit (pc' := 28) rfl rfl rfl (by rw [zz_lt ⟨by omega, by omega⟩]; exact decide_eq_true (by omega)) ?_
    exact tF (fun zz => by have := zz.1; omega)
  · skip
    refine jin (pc' := 4) 28 rfl rfl rfl rfl (by rw [zz_lt ⟨by omega, by omega⟩]; exact decide_eq_false (by omega)) ?_
    refine jx (pc' := 7) (L' := [_, _, _, _]) (st' := [.int (zI 11), _]) 2 rfl ?_
    by_cases up0 : 11 < w
    · skip
      refine jct (pc' := 28) rfl rfl rfl (by rw [zc_gt ⟨by omega, by omega⟩ ⟨by omega, by omega⟩]; exact decide_eq_true (by omega)) ?_
      exact tF (fun zz => by have := zz.1; omega)
    · skip
      refine jcn (pc' := 10) 28 rfl rfl rfl rfl (by rw [zc_gt ⟨by omega, by omega⟩ ⟨by omega, by omega⟩]; exact decide_eq_false (by omega)) ?_
      have hc0 : 0 ≤ w ∧ w ≤ 11 := ⟨by omega, by omega⟩
      refine jx (pc' := 11) (L' := [_, _, _, _]) (st' := [_]) 1 rfl ?_
      refine jcs (pc' := 14) 28 [_] [] rfl rfl rfl rfl rfl rfl rfl rfl ?_
      refine c_isTarget hx (jk ?_)
      by_cases hc1 : (0 ≤ x ∧ x < 8)
      · skip
        refine jin (pc' := 17) 28 rfl rfl rfl rfl (by rw [bz_eq, decide_eq_true hc1]; rfl) ?_
        refine jx (pc' := 18) (L' := [_, _, _, _]) (st' := [_]) 1 rfl ?_
        refine jcs (pc' := 21) 16 [_] [] rfl rfl rfl rfl rfl rfl rfl rfl ?_
        refine c_isRegister hy (jk ?_)
        by_cases hc2 : (0 ≤ y ∧ y ≤ 8)
        · skip
          refine jin (pc' := 24) 28 rfl rfl rfl rfl (by rw [bz_eq, decide_eq_true hc2]; rfl) ?_
          refine jx (pc' := 29) (L' := [_, _, _, _]) (st' := [.int (zI 1)]) 2 rfl ?_
          exact tJ true (fun _ => ⟨hc0, hc1, hc2⟩) (fun z => nomatch z)
        · skip
          refine jit (pc' := 28) rfl rfl rfl (by rw [bz_eq, decide_eq_false hc2]; rfl) ?_
          exact tF (fun zz => hc2 zz.2.2)
      · skip
        refine jit (pc' := 28) rfl rfl rfl (by rw [bz_eq, decide_eq_false hc1]; rfl) ?_
        exact tF (fun zz => hc1 zz.2.1)
def cScale (σ : Stt) (x : Int) (y : Int) (w : Int) : Prop := (0 ≤ x ∧ x < 8) ∧ (0 ≤ y ∧ y ≤ 8)
noncomputable def rScale (σ : Stt) (x : Int) (y : Int) (w : Int) : Dm × Nat := scR σ.2.1 w (σ.1 y.toNat)
theorem v_Scale {x : Int} {y : Int} {w : Int} (I : Inv h S) (C : Cls S σ) (G : Rm S n m e) (hx : zr x) (hy : zr y) (hw : zr w) (q0 : ¬ cScale σ x y w → ∀ h' S', Inv h' S' → Pst S S' σ (n + 1) (m + 6) e → Q (.inr (11, n)) h') (q1 : cScale σ x y w → (rScale σ x y w).2 &&& σ.2.2.2.1 = 0 → ∀ h' S', Inv h' S' → Pst S S' (dv2 σ x.toNat (rScale σ x y w).1 (rScale σ x y w).2) n m e → Q (.inl (some (.int (nI (rScale σ x y w).2)))) h') (q2 : cScale σ x y w → ¬ (rScale σ x y w).2 &&& σ.2.2.2.1 = 0 → ∀ h' S', Inv h' S' → Pst S S' (dv1 σ (rScale σ x y w).1 (rScale σ x y w).2) (n + 1) (m + 6) e → Q (.inr (12, n)) h') : ix_M 35 [.ref 32, .int (zI x), .int (zI y), .int (zI w)] h Q := by
  have c1 := C.1
  have c9 := C.2.2.2.2.2.2.2.2
  obtain ⟨f33, c2, c2f⟩ := C.2.1
  obtain ⟨L, dr, R⟩ := C.2.2.1
  obtain ⟨wn, AR⟩ := L.1
  have hx1 := hx.1
  have hx2 := hx.2
  have hy1 := hy.1
  have hy2 := hy.2
  have hw1 := hw.1
  have hw2 := hw.2
  have tJ : ∀ b : Bool, (b = true → cScale σ x y w) → (b = false → ¬ cScale σ x y w) → ix_E 35 19 [some (.ref 32), some (.int (zI x)), some (.int (zI y)), some (.int (zI w))] [.int (bI b)] h Q := by
    intro b hb1 hb0
    refine jcs (pc' := 22) 29 [_] [] rfl rfl rfl rfl rfl rfl rfl rfl ?_
    refine v_require I G (fun hb => jk ?_) (fun hb h' I' => jkt rfl ?_)
    · have cc := hb1 hb
      obtain ⟨k0, k1⟩ := hb1 hb
      have X := C.get (i := y.toNat) (by omega)
      rw [(zn hx (by omega)).1, (zn hy (by omega)).1]
      refine jx (pc' := 25) (L' := [_, _, _, _]) (st' := [_, _, _]) 3 rfl ?_
      refine jgf (pc' := 28) (I.ob (r := 32) c1) rfl rfl rfl rfl rfl ?_
      refine jx (pc' := 29) (L' := [_, _, _, _]) (st' := [_, _, _, _]) 1 rfl ?_
      refine jgf (pc' := 32) (I.ob (r := 32) c1) rfl rfl rfl rfl rfl ?_
      refine jx (pc' := 33) (L' := [_, _, _, _]) (st' := [_, _, _, _, _]) 1 rfl ?_
      refine jaa (pc' := 34) (r := 33) (z := 71 + 3 * y.toNat) I c2 rfl rfl (by omega) (c2f _ (by omega)) rfl ?_
      refine jx (pc' := 36) (L' := [_, _, _, _]) (st' := [_, _, _, _, _, _]) 2 rfl ?_
      refine jgf (pc' := 39) (I.ob (r := 32) c1) rfl rfl rfl rfl rfl ?_
      refine jcv (pc' := 42) 139 [_, _, _] [_, _] (I.ob (r := 34) AR) rfl rfl rfl rfl rfl rfl rfl rfl ?_
      refine v_scaled I L R X c9.1 hw fun h1 T I1 L1 g R1 => jk ?_
      have hv : ValD (rScale σ x y w).1 := val_sc (C.vd (i := y.toNat) (by omega))
      have hfl : (rScale σ x y w).2 < 32 := fl_sc (C.vd (i := y.toNat) (by omega))
      have I := I1
      refine jcv (pc' := 45) 31 [_, _] [] (I.ob (r := 32) (g.at 32 (by decide) c1)) rfl rfl rfl rfl rfl rfl rfl rfl ?_
      refine v_ret T arl g arl_b I1 C G L1 R1 (by omega) hv hfl rfl (fun e0 h' S' I' P => ?_) (fun e0 h' S' I' P => ?_)
      · refine jri rfl rfl ?_
        exact q1 cc e0 h' S' I' P
      · exact q2 cc e0 h' S' I' P
    · exact q0 (hb0 hb) _ _ I' (Pst.no C)
  have tF : ¬ cScale σ x y w → ix_E 35 18 [some (.ref 32), some (.int (zI x)), some (.int (zI y)), some (.int (zI w))] [] h Q := by
    intro hc
    refine jx (pc' := 19) (L' := [_, _, _, _]) (st' := [.int (nI 0)]) 1 rfl ?_
    exact tJ false (fun z => nomatch z) (fun _ => hc)
  refine jx (pc' := 1) (L' := [_, _, _, _]) (st' := [_]) 1 rfl ?_
  refine jcs (pc' := 4) 28 [_] [] rfl rfl rfl rfl rfl rfl rfl rfl ?_
  refine c_isTarget hx (jk ?_)
  by_cases hc0 : (0 ≤ x ∧ x < 8)
  · skip
    refine jin (pc' := 7) 18 rfl rfl rfl rfl (by rw [bz_eq, decide_eq_true hc0]; rfl) ?_
    refine jx (pc' := 8) (L' := [_, _, _, _]) (st' := [_]) 1 rfl ?_
    refine jcs (pc' := 11) 16 [_] [] rfl rfl rfl rfl rfl rfl rfl rfl ?_
    refine c_isRegister hy (jk ?_)
    by_cases hc1 : (0 ≤ y ∧ y ≤ 8)
    · skip
      refine jin (pc' := 14) 18 rfl rfl rfl rfl (by rw [bz_eq, decide_eq_true hc1]; rfl) ?_
      refine jx (pc' := 19) (L' := [_, _, _, _]) (st' := [.int (zI 1)]) 2 rfl ?_
      exact tJ true (fun _ => ⟨hc0, hc1⟩) (fun z => nomatch z)
    · skip
      refine jit (pc' := 18) rfl rfl rfl (by rw [bz_eq, decide_eq_false hc1]; rfl) ?_
      exact tF (fun zz => hc1 zz.2)
  · skip
    refine jit (pc' := 18) rfl rfl rfl (by rw [bz_eq, decide_eq_false hc0]; rfl) ?_
    exact tF (fun zz => hc0 zz.1)
def cConvert (σ : Stt) (x : Int) (y : Int) (w : Int) : Prop := (0 ≤ x ∧ x < 8) ∧ (0 ≤ y ∧ y ≤ 8) ∧ (0 ≤ w ∧ w < 3)
noncomputable def rConvert (σ : Stt) (x : Int) (y : Int) (w : Int) : Dm × Nat := cvR σ.2.1 w.toNat (σ.1 y.toNat)
theorem v_Convert {x : Int} {y : Int} {w : Int} (I : Inv h S) (C : Cls S σ) (G : Rm S n m e) (hx : zr x) (hy : zr y) (hw : zr w) (q0 : ¬ cConvert σ x y w → ∀ h' S', Inv h' S' → Pst S S' σ (n + 1) (m + 6) e → Q (.inr (11, n)) h') (q1 : cConvert σ x y w → (rConvert σ x y w).2 &&& σ.2.2.2.1 = 0 → ∀ h' S', Inv h' S' → Pst S S' (dv2 σ x.toNat (rConvert σ x y w).1 (rConvert σ x y w).2) n m e → Q (.inl (some (.int (nI (rConvert σ x y w).2)))) h') (q2 : cConvert σ x y w → ¬ (rConvert σ x y w).2 &&& σ.2.2.2.1 = 0 → ∀ h' S', Inv h' S' → Pst S S' (dv1 σ (rConvert σ x y w).1 (rConvert σ x y w).2) (n + 1) (m + 6) e → Q (.inr (12, n)) h') : ix_M 36 [.ref 32, .int (zI x), .int (zI y), .int (zI w)] h Q := by
  have c1 := C.1
  have c9 := C.2.2.2.2.2.2.2.2
  obtain ⟨f33, c2, c2f⟩ := C.2.1
  obtain ⟨L, dr, R⟩ := C.2.2.1
  obtain ⟨wn, AR⟩ := L.1
  have hx1 := hx.1
  have hx2 := hx.2
  have hy1 := hy.1
  have hy2 := hy.2
  have hw1 := hw.1
  have hw2 := hw.2
  have tJ : ∀ b : Bool, (b = true → cConvert σ x y w) → (b = false → ¬ cConvert σ x y w) → ix_E 36 26 [some (.ref 32), some (.int (zI x)), some (.int (zI y)), some (.int (zI w))] [.int (bI b)] h Q := by
    intro b hb1 hb0
    refine jcs (pc' := 29) 29 [_] [] rfl rfl rfl rfl rfl rfl rfl rfl ?_
    refine v_require I G (fun hb => jk ?_) (fun hb h' I' => jkt rfl ?_)
    · have cc := hb1 hb
      obtain ⟨k0, k1, k2⟩ := hb1 hb
      have X := C.get (i := y.toNat) (by omega)
      rw [(zn hx (by omega)).1, (zn hy (by omega)).1, (zn hw (by omega)).1]
      refine jx (pc' := 32) (L' := [_, _, _, _]) (st' := [_, _, _]) 3 rfl ?_
      refine jgf (pc' := 35) (I.ob (r := 32) c1) rfl rfl rfl rfl rfl ?_
      refine jx (pc' := 36) (L' := [_, _, _, _]) (st' := [_, _, _, _]) 1 rfl ?_
      refine jgf (pc' := 39) (I.ob (r := 32) c1) rfl rfl rfl rfl rfl ?_
      refine jx (pc' := 40) (L' := [_, _, _, _]) (st' := [_, _, _, _, _]) 1 rfl ?_
      refine jaa (pc' := 41) (r := 33) (z := 71 + 3 * y.toNat) I c2 rfl rfl (by omega) (c2f _ (by omega)) rfl ?_
      refine jx (pc' := 43) (L' := [_, _, _, _]) (st' := [_, _, _, _, _, _]) 2 rfl ?_
      refine jgf (pc' := 46) (I.ob (r := 32) c1) rfl rfl rfl rfl rfl ?_
      refine jcv (pc' := 49) 140 [_, _, _] [_, _] (I.ob (r := 34) AR) rfl rfl rfl rfl rfl rfl rfl rfl ?_
      refine v_converted I L R X c9.1 (by omega) fun h1 T I1 L1 g R1 => jk ?_
      have hv : ValD (rConvert σ x y w).1 := val_cv (C.vd (i := y.toNat) (by omega)) (by omega)
      have hfl : (rConvert σ x y w).2 < 32 := fl_cv (by omega)
      have I := I1
      refine jcv (pc' := 52) 31 [_, _] [] (I.ob (r := 32) (g.at 32 (by decide) c1)) rfl rfl rfl rfl rfl rfl rfl rfl ?_
      refine v_ret T arl g arl_b I1 C G L1 R1 (by omega) hv hfl rfl (fun e0 h' S' I' P => ?_) (fun e0 h' S' I' P => ?_)
      · refine jri rfl rfl ?_
        exact q1 cc e0 h' S' I' P
      · exact q2 cc e0 h' S' I' P
    · exact q0 (hb0 hb) _ _ I' (Pst.no C)
  have tF : ¬ cConvert σ x y w → ix_E 36 25 [some (.ref 32), some (.int (zI x)), some (.int (zI y)), some (.int (zI w))] [] h Q := by
    intro hc
    refine jx (pc' := 26) (L' := [_, _, _, _]) (st' := [.int (nI 0)]) 1 rfl ?_
    exact tJ false (fun z => nomatch z) (fun _ => hc)
  refine jx (pc' := 1) (L' := [_, _, _, _]) (st' := [_]) 1 rfl ?_
  refine jcs (pc' := 4) 28 [_] [] rfl rfl rfl rfl rfl rfl rfl rfl ?_
  refine c_isTarget hx (jk ?_)
  by_cases hc0 : (0 ≤ x ∧ x < 8)
  · skip
    refine jin (pc' := 7) 25 rfl rfl rfl rfl (by rw [bz_eq, decide_eq_true hc0]; rfl) ?_
    refine jx (pc' := 8) (L' := [_, _, _, _]) (st' := [_]) 1 rfl ?_
    refine jcs (pc' := 11) 16 [_] [] rfl rfl rfl rfl rfl rfl rfl rfl ?_
    refine c_isRegister hy (jk ?_)
    by_cases hc1 : (0 ≤ y ∧ y ≤ 8)
    · skip
      refine jin (pc' := 14) 25 rfl rfl rfl rfl (by rw [bz_eq, decide_eq_true hc1]; rfl) ?_
      refine jx (pc' := 15) (L' := [_, _, _, _]) (st' := [_]) 1 rfl ?_
      refine jcs (pc' := 18) 44 [_] [] rfl rfl rfl rfl rfl rfl rfl rfl ?_
      refine c_exists I.tab hw (fun hc2 => jk ?_) (fun hc2 => jk ?_)
      · skip
        refine jin (pc' := 21) 25 rfl rfl rfl rfl (by rfl) ?_
        refine jx (pc' := 26) (L' := [_, _, _, _]) (st' := [.int (zI 1)]) 2 rfl ?_
        exact tJ true (fun _ => ⟨hc0, hc1, hc2⟩) (fun z => nomatch z)
      · skip
        refine jit (pc' := 25) rfl rfl rfl (by rfl) ?_
        exact tF (fun zz => hc2 zz.2.2)
    · skip
      refine jit (pc' := 25) rfl rfl rfl (by rw [bz_eq, decide_eq_false hc1]; rfl) ?_
      exact tF (fun zz => hc1 zz.2.1)
  · skip
    refine jit (pc' := 25) rfl rfl rfl (by rw [bz_eq, decide_eq_false hc0]; rfl) ?_
    exact tF (fun zz => hc0 zz.1)
def cNumber (σ : Stt) (x : Int) (w : Int) : Prop := (0 ≤ x ∧ x < 8) ∧ (0 ≤ w ∧ w < 3)
noncomputable def rNumber (σ : Stt) (x : Int) (w : Int) (hi : Int32) (lo : Int32) : Dm × Nat := fwR σ.2.1 w.toNat (wl hi lo)
theorem v_Number {x : Int} {w : Int} {hi : Int32} {lo : Int32} (I : Inv h S) (C : Cls S σ) (G : Rm S n m e) (hx : zr x) (hw : zr w) (q0 : ¬ cNumber σ x w → ∀ h' S', Inv h' S' → Pst S S' σ (n + 1) (m + 6) e → Q (.inr (11, n)) h') (q1 : cNumber σ x w → (rNumber σ x w hi lo).2 &&& σ.2.2.2.1 = 0 → ∀ h' S', Inv h' S' → Pst S S' (dv2 σ x.toNat (rNumber σ x w hi lo).1 (rNumber σ x w hi lo).2) n m e → Q (.inl (some (.int (nI (rNumber σ x w hi lo).2)))) h') (q2 : cNumber σ x w → ¬ (rNumber σ x w hi lo).2 &&& σ.2.2.2.1 = 0 → ∀ h' S', Inv h' S' → Pst S S' (dv1 σ (rNumber σ x w hi lo).1 (rNumber σ x w hi lo).2) (n + 1) (m + 6) e → Q (.inr (12, n)) h') : ix_M 37 [.ref 32, .int (zI x), .int (zI w), .int hi, .int lo] h Q := by
  have c1 := C.1
  have c9 := C.2.2.2.2.2.2.2.2
  obtain ⟨f33, c2, c2f⟩ := C.2.1
  obtain ⟨L, dr, R⟩ := C.2.2.1
  obtain ⟨wn, AR⟩ := L.1
  have hx1 := hx.1
  have hx2 := hx.2
  have hw1 := hw.1
  have hw2 := hw.2
  have tJ : ∀ b : Bool, (b = true → cNumber σ x w) → (b = false → ¬ cNumber σ x w) → ix_E 37 19 [some (.ref 32), some (.int (zI x)), some (.int (zI w)), some (.int hi), some (.int lo)] [.int (bI b)] h Q := by
    intro b hb1 hb0
    refine jcs (pc' := 22) 29 [_] [] rfl rfl rfl rfl rfl rfl rfl rfl ?_
    refine v_require I G (fun hb => jk ?_) (fun hb h' I' => jkt rfl ?_)
    · have cc := hb1 hb
      obtain ⟨k0, k1⟩ := hb1 hb
      rw [(zn hx (by omega)).1, (zn hw (by omega)).1]
      refine jx (pc' := 25) (L' := [_, _, _, _, _]) (st' := [_, _, _]) 3 rfl ?_
      refine jgf (pc' := 28) (I.ob (r := 32) c1) rfl rfl rfl rfl rfl ?_
      refine jx (pc' := 33) (L' := [_, _, _, _, _]) (st' := [_, _, _, _, _, _, _]) 4 rfl ?_
      refine jgf (pc' := 36) (I.ob (r := 32) c1) rfl rfl rfl rfl rfl ?_
      refine jcv (pc' := 39) 141 [_, _, _, _] [_, _] (I.ob (r := 34) AR) rfl rfl rfl rfl rfl rfl rfl rfl ?_
      refine v_fromWhole I L R c9.1 (by omega) fun h1 T I1 L1 g R1 => jk ?_
      have hv : ValD (rNumber σ x w hi lo).1 := val_fw (by omega) (wl_b hi lo)
      have hfl : (rNumber σ x w hi lo).2 < 32 := fl_fw (by omega)
      have I := I1
      refine jcv (pc' := 42) 31 [_, _] [] (I.ob (r := 32) (g.at 32 (by decide) c1)) rfl rfl rfl rfl rfl rfl rfl rfl ?_
      refine v_ret T arl g arl_b I1 C G L1 R1 (by omega) hv hfl rfl (fun e0 h' S' I' P => ?_) (fun e0 h' S' I' P => ?_)
      · refine jri rfl rfl ?_
        exact q1 cc e0 h' S' I' P
      · exact q2 cc e0 h' S' I' P
    · exact q0 (hb0 hb) _ _ I' (Pst.no C)
  have tF : ¬ cNumber σ x w → ix_E 37 18 [some (.ref 32), some (.int (zI x)), some (.int (zI w)), some (.int hi), some (.int lo)] [] h Q := by
    intro hc
    refine jx (pc' := 19) (L' := [_, _, _, _, _]) (st' := [.int (nI 0)]) 1 rfl ?_
    exact tJ false (fun z => nomatch z) (fun _ => hc)
  refine jx (pc' := 1) (L' := [_, _, _, _, _]) (st' := [_]) 1 rfl ?_
  refine jcs (pc' := 4) 28 [_] [] rfl rfl rfl rfl rfl rfl rfl rfl ?_
  refine c_isTarget hx (jk ?_)
  by_cases hc0 : (0 ≤ x ∧ x < 8)
  · skip
    refine jin (pc' := 7) 18 rfl rfl rfl rfl (by rw [bz_eq, decide_eq_true hc0]; rfl) ?_
    refine jx (pc' := 8) (L' := [_, _, _, _, _]) (st' := [_]) 1 rfl ?_
    refine jcs (pc' := 11) 44 [_] [] rfl rfl rfl rfl rfl rfl rfl rfl ?_
    refine c_exists I.tab hw (fun hc1 => jk ?_) (fun hc1 => jk ?_)
    · skip
      refine jin (pc' := 14) 18 rfl rfl rfl rfl (by rfl) ?_
      refine jx (pc' := 19) (L' := [_, _, _, _, _]) (st' := [.int (zI 1)]) 2 rfl ?_
      exact tJ true (fun _ => ⟨hc0, hc1⟩) (fun z => nomatch z)
    · skip
      refine jit (pc' := 18) rfl rfl rfl (by rfl) ?_
      exact tF (fun zz => hc1 zz.2)
  · skip
    refine jit (pc' := 18) rfl rfl rfl (by rw [bz_eq, decide_eq_false hc0]; rfl) ?_
    exact tF (fun zz => hc0 zz.1)
end TOP
