/-! ===== DecimalBits: two ===== -/
section TOP
variable {h : ix_H} {Q : ix_O → ix_H → Prop} {S : Nat → AC} {σ : Stt} {n m s d f : Nat} {e : ix_C} {x y w z : Int} {r : Dm}
/-- a refused call leaves the state -/
theorem Pst.no (C : Cls S σ) : Pst S (va_up S 0 (aG (n + 1) (m + 6) e)) σ (n + 1) (m + 6) e := ⟨C.gh, va_up_self _ _ _, fun r hr => va_up_ne _ _ (by omega)⟩
def cTwo (σ : Stt) (w x y z : Int) : Prop := (0 ≤ w ∧ w ≤ 10) ∧ (0 ≤ x ∧ x < 8) ∧ (0 ≤ y ∧ y ≤ 8) ∧ (0 ≤ z ∧ z ≤ 8) ∧ (σ.1 y.toNat).1 = (σ.1 z.toNat).1
noncomputable def rTwo (σ : Stt) (w y z : Int) : Dm × Nat := o2R w.toNat σ.2.1 (σ.1 y.toNat) (σ.1 z.toNat)
theorem v_two (I : Inv h S) (C : Cls S σ) (G : Rm S n m e) (hw : zr w) (hx : zr x) (hy : zr y) (hz : zr z) (q0 : ¬ cTwo σ w x y z → ∀ h' S', Inv h' S' → Pst S S' σ (n + 1) (m + 6) e → Q (.inr (11, n)) h') (q1 : cTwo σ w x y z → (rTwo σ w y z).2 &&& σ.2.2.2.1 = 0 → ∀ h' S', Inv h' S' → Pst S S' (dv2 σ x.toNat (rTwo σ w y z).1 (rTwo σ w y z).2) n m e → Q (.inl (some (.int (nI (rTwo σ w y z).2)))) h') (q2 : cTwo σ w x y z → ¬ (rTwo σ w y z).2 &&& σ.2.2.2.1 = 0 → ∀ h' S', Inv h' S' → Pst S S' (dv1 σ (rTwo σ w y z).1 (rTwo σ w y z).2) (n + 1) (m + 6) e → Q (.inr (12, n)) h') : ix_M 30 [.ref 32, .int (zI w), .int (zI x), .int (zI y), .int (zI z)] h Q := by
  have c1 := C.1
  have c9 := C.2.2.2.2.2.2.2.2
  obtain ⟨f33, c2, c2f⟩ := C.2.1
  obtain ⟨L, dr, R⟩ := C.2.2.1
  obtain ⟨wn, AR⟩ := L.1
  have hw1 := hw.1
  have hw2 := hw.2
  have t32 : ∀ b : Bool, (b = true → cTwo σ w x y z) → (b = false → ¬ cTwo σ w x y z) → ix_E 30 32 [some (.ref 32), some (.int (zI w)), some (.int (zI x)), some (.int (zI y)), some (.int (zI z))] [.int (bI b)] h Q := by
    intro b hb1 hb0
    refine jcs (pc' := 35) 29 [_] [] rfl rfl rfl rfl rfl rfl rfl rfl ?_
    refine v_require I G (fun hb => jk ?_) (fun hb h' I' => jkt rfl ?_)
    · have cc := hb1 hb
      obtain ⟨w0, x0, y0, z0', sf⟩ := hb1 hb
      have X := C.get (i := y.toNat) (by omega)
      have Y := C.get (i := z.toNat) (by omega)
      rw [(zn hw w0.1).1, (zn hx x0.1).1, (zn hy y0.1).1, (zn hz z0'.1).1]
      refine jx (pc' := 38) (L' := [_, _, _, _, _]) (st' := [_, _, _]) 3 rfl ?_
      refine jgf (pc' := 41) (I.ob (r := 32) c1) rfl rfl rfl rfl rfl ?_
      refine jx (pc' := 43) (L' := [_, _, _, _, _]) (st' := [_, _, _, _, _]) 2 rfl ?_
      refine jgf (pc' := 46) (I.ob (r := 32) c1) rfl rfl rfl rfl rfl ?_
      refine jx (pc' := 47) (L' := [_, _, _, _, _]) (st' := [_, _, _, _, _, _]) 1 rfl ?_
      refine jaa (pc' := 48) (r := 33) (z := 71 + 3 * y.toNat) I c2 rfl rfl (by omega) (c2f _ (by omega)) rfl ?_
      refine jx (pc' := 49) (L' := [_, _, _, _, _]) (st' := [_, _, _, _, _, _]) 1 rfl ?_
      refine jgf (pc' := 52) (I.ob (r := 32) c1) rfl rfl rfl rfl rfl ?_
      refine jx (pc' := 54) (L' := [_, _, _, _, _]) (st' := [_, _, _, _, _, _, _]) 1 rfl ?_
      refine jaa (pc' := 55) (r := 33) (z := 71 + 3 * z.toNat) I c2 rfl rfl (by omega) (c2f _ (by omega)) rfl ?_
      refine jx (pc' := 56) (L' := [_, _, _, _, _]) (st' := [_, _, _, _, _, _, _]) 1 rfl ?_
      refine jgf (pc' := 59) (I.ob (r := 32) c1) rfl rfl rfl rfl rfl ?_
      refine jcv (pc' := 62) 113 [_, _, _, _] [_, _] (I.ob (r := 34) AR) rfl rfl rfl rfl rfl rfl rfl rfl ?_
      refine v_ofTwo I L R X Y c9.1 (by omega) fun h1 T I1 L1 g R1 => jk ?_
      have hv := val_o2 (what := w.toNat) (dir := σ.2.1) (C.vd (i := y.toNat) (by omega)) (C.vd (i := z.toNat) (by omega)) sf
      have hfl := fl_o2 (what := w.toNat) (dir := σ.2.1) (A := σ.1 y.toNat) (B := σ.1 z.toNat) (C.vd (by omega))
      have I := I1
      refine jcv (pc' := 65) 31 [_, _] [] (I.ob (r := 32) (g.at 32 (by decide) c1)) rfl rfl rfl rfl rfl rfl rfl rfl ?_
      refine v_ret T arl g arl_b I1 C G L1 R1 (by omega) hv hfl rfl (fun e0 h' S' I' P => ?_) (fun e0 h' S' I' P => ?_)
      · refine jri rfl rfl ?_
        exact q1 cc e0 h' S' I' P
      · exact q2 cc e0 h' S' I' P
    · exact q0 (hb0 hb) _ _ I' (Pst.no C)
  have t31 : ¬ cTwo σ w x y z → ix_E 30 31 [some (.ref 32), some (.int (zI w)), some (.int (zI x)), some (.int (zI y)), some (.int (zI z))] [] h Q := by
    intro hc
    refine jx (pc' := 32) (L' := [_, _, _, _, _]) (st' := [.int (nI 0)]) 1 rfl ?_
    exact t32 false (fun z => nomatch z) (fun _ => hc)
  refine jx (pc' := 1) (L' := [_, _, _, _, _]) (st' := [_]) 1 rfl ?_
  by_cases w0 : w < 0
  · skip
    refine jit (pc' := 31) rfl rfl rfl (by rw [zz_lt ⟨by omega, by omega⟩]; exact decide_eq_true (by omega)) ?_
    exact t31 (fun z => by have := z.1.1; omega)
  · skip
    refine jin (pc' := 4) 31 rfl rfl rfl rfl (by rw [zz_lt ⟨by omega, by omega⟩]; exact decide_eq_false (by omega)) ?_
    refine jx (pc' := 7) (L' := [_, _, _, _, _]) (st' := [.int (zI 10), _]) 2 rfl ?_
    by_cases w10 : 10 < w
    · skip
      refine jct (pc' := 31) rfl rfl rfl (by rw [zc_gt ⟨by omega, by omega⟩ ⟨by omega, by omega⟩]; exact decide_eq_true (by omega)) ?_
      exact t31 (fun z => by have := z.1.2; omega)
    · skip
      refine jcn (pc' := 10) 31 rfl rfl rfl rfl (by rw [zc_gt ⟨by omega, by omega⟩ ⟨by omega, by omega⟩]; exact decide_eq_false (by omega)) ?_
      refine jx (pc' := 11) (L' := [_, _, _, _, _]) (st' := [_]) 1 rfl ?_
      refine jcs (pc' := 14) 28 [_] [] rfl rfl rfl rfl rfl rfl rfl rfl ?_
      refine c_isTarget hx (jk ?_)
      by_cases x0 : 0 ≤ x ∧ x < 8
      · skip
        refine jin (pc' := 17) 31 rfl rfl rfl rfl (by rw [bz_eq, decide_eq_true x0]; rfl) ?_
        refine jx (pc' := 21) (L' := [_, _, _, _, _]) (st' := [_, _, _]) 3 rfl ?_
        refine jcv (pc' := 24) 24 [_, _] [] (I.ob (r := 32) c1) rfl rfl rfl rfl rfl rfl rfl rfl ?_
        refine v_areOfOneFormat I C hy hz (jk ?_)
        by_cases yz : (0 ≤ y ∧ y ≤ 8) ∧ (0 ≤ z ∧ z ≤ 8) ∧ (σ.1 y.toNat).1 = (σ.1 z.toNat).1
        · skip
          refine jin (pc' := 27) 31 rfl rfl rfl rfl (by rw [bz_eq, decide_eq_true yz]; rfl) ?_
          refine jx (pc' := 32) (L' := [_, _, _, _, _]) (st' := [.int (zI 1)]) 2 rfl ?_
          exact t32 true (fun _ => ⟨⟨by omega, by omega⟩, x0, yz⟩) (fun z => nomatch z)
        · skip
          refine jit (pc' := 31) rfl rfl rfl (by rw [bz_eq, decide_eq_false yz]; rfl) ?_
          exact t31 (fun z => yz z.2.2)
      · skip
        refine jit (pc' := 31) rfl rfl rfl (by rw [bz_eq, decide_eq_false x0]; rfl) ?_
        exact t31 (fun z => x0 z.2.1)
end TOP
