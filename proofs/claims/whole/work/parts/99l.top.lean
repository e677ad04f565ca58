/-! ===== DecimalBits: load, bits, format, direct, flags, lower, trap ===== -/
section CLS
variable {S T : Nat → AC} {σ : Stt}
theorem Cls.gen {l : List Nat} {t' : Nat → Nat} {len' : Nat} {l' : List Nat} (C : Cls S σ) (g : ag l S T) (hl : ∀ r, r ∈ l → r = 59 ∨ r = 62 ∨ r = 63 ∨ r = 65 ∨ r = 66 ∨ r = 68 ∨ r = 69 ∨ r = 70) (h59 : isN T 59) (h62 : ∃ W, T 62 = aC (cI 0 4 W)) (h63 : isN T 63) (h65 : ∃ so ng ex pl, T 65 = aC (trC so ng ex len' pl)) (h66 : isN T 66) (h68 : T 68 = aC (txC t')) (hw : Wr T l') (b1 : len' ≤ 120) (b2 : ∀ j, j < len' → t' j < 128) (b3 : l'.length ≤ 64) : Cls T (σ.1, σ.2.1, σ.2.2.1, σ.2.2.2.1, t', len', l') := by
  obtain ⟨c1, ⟨f, c2, c2f⟩, ⟨c3, dr, r1, r2, r3⟩, ⟨c4, _⟩, ⟨c5, _⟩, _, _, c8, c9⟩ := C
  have k : ∀ r : Nat, ¬ (r = 59 ∨ r = 62 ∨ r = 63 ∨ r = 65 ∨ r = 66 ∨ r = 68 ∨ r = 69 ∨ r = 70) → r ∉ l := fun r hr z => hr (hl r z)
  have L : Lay T := by
    obtain ⟨⟨wn, a⟩, ⟨xn, xm, xe', xw, xc, x1, x2⟩, ⟨n, m, e, w, c, y1, y2⟩, d, ⟨f1, r1⟩, ⟨f2, r2⟩, cm, ⟨v1, n48⟩, ⟨v2, n50⟩, ⟨v3, n52⟩, ⟨v4, n54⟩, ⟨v5, n56⟩⟩ := c3
    exact ⟨⟨wn, g.at 34 (k _ (by omega)) a⟩, ⟨xn, xm, xe', xw, xc, g.at 38 (k _ (by omega)) x1, g.at 39 (k _ (by omega)) x2⟩, ⟨n, m, e, w, c, g.at 41 (k _ (by omega)) y1, g.at 42 (k _ (by omega)) y2⟩, g.at 44 (k _ (by omega)) d, ⟨f1, g.at 45 (k _ (by omega)) r1⟩, ⟨f2, g.at 46 (k _ (by omega)) r2⟩, g.at 47 (k _ (by omega)) cm, ⟨v1, g.at 48 (k _ (by omega)) n48⟩, ⟨v2, g.at 50 (k _ (by omega)) n50⟩, ⟨v3, g.at 52 (k _ (by omega)) n52⟩, ⟨v4, g.at 54 (k _ (by omega)) n54⟩, ⟨v5, g.at 56 (k _ (by omega)) n56⟩⟩
  exact ⟨g.at 32 (k _ (by omega)) c1, ⟨f, g.at 33 (k _ (by omega)) c2, c2f⟩, ⟨L, dr, g.at 35 (k _ (by omega)) r1, g.at 36 (k _ (by omega)) r2, r3⟩, ⟨g.at 58 (k _ (by omega)) c4, h59⟩, ⟨g.at 61 (k _ (by omega)) c5, h62, h63⟩, ⟨h65, h66, h68⟩, hw, fun i hi => (c8 i hi).ag g (fun r hr => by have := hl r hr; omega), c9.1, c9.2.1, c9.2.2.1, b1, b2, b3⟩
/-- the bit pattern's cells -/
theorem Cls.bp (C : Cls S σ) (g : ag [62, 63] S T) (h62 : ∃ W, T 62 = aC (cI 0 4 W)) (h63 : isN T 63) : Cls T σ := by
  obtain ⟨_, _, _, ⟨_, n4, c4n⟩, _, ⟨⟨so, ng, ex, pl, c6⟩, ⟨n6, c6n⟩, c6t⟩, ⟨c7, o, c7o, c7l⟩, _, c9⟩ := id C
  exact C.gen g (by decide) ⟨n4, g.at 59 (by decide) c4n⟩ h62 h63 ⟨so, ng, ex, pl, g.at 65 (by decide) c6⟩ ⟨n6, g.at 66 (by decide) c6n⟩ (g.at 68 (by decide) c6t) ⟨g.at 69 (by decide) c7, o, g.at 70 (by decide) c7o, c7l⟩ c9.2.2.2.1 c9.2.2.2.2.1 c9.2.2.2.2.2
/-- the comparison's work -/
theorem Cls.cw (C : Cls S σ) (g : ag [59] S T) (h59 : isN T 59) : Cls T σ := by
  obtain ⟨_, _, _, _, ⟨_, ⟨W, c5w⟩, n5, c5n⟩, ⟨⟨so, ng, ex, pl, c6⟩, ⟨n6, c6n⟩, c6t⟩, ⟨c7, o, c7o, c7l⟩, _, c9⟩ := id C
  exact C.gen g (by decide) h59 ⟨W, g.at 62 (by decide) c5w⟩ ⟨n5, g.at 63 (by decide) c5n⟩ ⟨so, ng, ex, pl, g.at 65 (by decide) c6⟩ ⟨n6, g.at 66 (by decide) c6n⟩ (g.at 68 (by decide) c6t) ⟨g.at 69 (by decide) c7, o, g.at 70 (by decide) c7o, c7l⟩ c9.2.2.2.1 c9.2.2.2.2.1 c9.2.2.2.2.2
/-- the reader's cells -/
theorem Cls.rd {t' : Nat → Nat} {len' : Nat} (C : Cls S σ) (g : ag [65, 66, 68] S T) (h65 : ∃ so ng ex pl, T 65 = aC (trC so ng ex len' pl)) (h66 : isN T 66) (h68 : T 68 = aC (txC t')) (b1 : len' ≤ 120) (b2 : ∀ j, j < len' → t' j < 128) : Cls T (σ.1, σ.2.1, σ.2.2.1, σ.2.2.2.1, t', len', σ.2.2.2.2.2.2) := by
  obtain ⟨_, _, _, ⟨_, n4, c4n⟩, ⟨_, ⟨W, c5w⟩, n5, c5n⟩, _, ⟨c7, o, c7o, c7l⟩, _, c9⟩ := id C
  exact C.gen g (by decide) ⟨n4, g.at 59 (by decide) c4n⟩ ⟨W, g.at 62 (by decide) c5w⟩ ⟨n5, g.at 63 (by decide) c5n⟩ h65 h66 h68 ⟨g.at 69 (by decide) c7, o, g.at 70 (by decide) c7o, c7l⟩ b1 b2 c9.2.2.2.2.2
/-- the writer's cells -/
theorem Cls.wr {l' : List Nat} (C : Cls S σ) (g : ag [69, 70] S T) (hw : Wr T l') (b3 : l'.length ≤ 64) : Cls T (σ.1, σ.2.1, σ.2.2.1, σ.2.2.2.1, σ.2.2.2.2.1, σ.2.2.2.2.2.1, l') := by
  obtain ⟨_, _, _, ⟨_, n4, c4n⟩, ⟨_, ⟨W, c5w⟩, n5, c5n⟩, ⟨⟨so, ng, ex, pl, c6⟩, ⟨n6, c6n⟩, c6t⟩, _, _, c9⟩ := id C
  exact C.gen g (by decide) ⟨n4, g.at 59 (by decide) c4n⟩ ⟨W, g.at 62 (by decide) c5w⟩ ⟨n5, g.at 63 (by decide) c5n⟩ ⟨so, ng, ex, pl, g.at 65 (by decide) c6⟩ ⟨n6, g.at 66 (by decide) c6n⟩ (g.at 68 (by decide) c6t) hw c9.2.2.2.1 c9.2.2.2.2.1 b3
end CLS
/-- four words -/
def w4 (a b c d : Int32) : Nat → Int32 := fun j => if j = 0 then a else if j = 1 then b else if j = 2 then c else d
theorem jc_cg {f top most : Nat} {W W' : Nat → Int32} (h1 : W 1 = W' 1) (h2 : W 2 = W' 2) (h3 : W 3 = W' 3) : jc f top W most = jc f top W' most := by
  unfold jc jw
  rw [h1, h2, h3]
theorem dcR_cg {f H : Nat} {W W' : Nat → Int32} (h1 : W 1 = W' 1) (h2 : W 2 = W' 2) (h3 : W 3 = W' 3) : dcR f H W = dcR f H W' := by
  unfold dcR dcS
  rw [jc_cg h1 h2 h3, jc_cg h1 h2 h3, jc_cg h1 h2 h3]
noncomputable def dcD (f : Nat) (a b c d : Int32) : Dm := (f, (dcR f (wd a) (w4 a b c d)).1, decide (2147483648 ≤ wd a), (dcR f (wd a) (w4 a b c d)).2.1, (dcR f (wd a) (w4 a b c d)).2.2)
theorem jc_b (f top : Nat) (W : Nat → Int32) (most : Nat) : jc f top W most < 10 ^ most := by
  unfold jc
  split
  · exact pp0 _
  · exact Nat.lt_of_lt_of_le (dgs_l _) (pl (by omega))
theorem val_dc {f : Nat} {a b c d : Int32} (hf : f < 3) : ValD (dcD f a b c d) := by
  have g := gEb hf
  obtain ⟨f1, f2, f3', f4, f5, f6, f7⟩ := f3b hf
  have hH := wd_lt a
  unfold dcD
  generalize w4 a b c d = W
  generalize wd a = H at *
  show Val f (dcR f H W).1 (dcR f H W).2.1 (dcR f H W).2.2
  unfold dcR
  split
  · unfold dcS
    split
    · exact ⟨hf, (by decide : 1 < 4), ⟨(by omega : -(fB f : Int) ≤ 0), (by omega : (0 : Int) ≤ gE f)⟩, pp0 _, Or.inr rfl, fun _ => rfl, fun _ => pp0 _⟩
    · have hj := jc_b f (H % 2 ^ fP f) W (fD f - 1)
      refine ⟨hf, ?_, ⟨(by omega : -(fB f : Int) ≤ 0), (by omega : (0 : Int) ≤ gE f)⟩, Nat.lt_of_lt_of_le hj (pl (show fD f - 1 ≤ fD f by omega)), Or.inr rfl, fun z => ?_, fun _ => hj⟩
      · show (if H / 2 ^ 25 % 2 ^ 6 = 63 then 2 else 3) < 4
        split <;> decide
      · have : (if H / 2 ^ 25 % 2 ^ 6 = 63 then 2 else 3) = 1 := z
        split at this <;> omega
  · next h1 =>
    split
    · next h2 =>
      have hj := jc_b f (H % 2 ^ (31 - fW f)) W (fD f)
      refine val_0 (fm := f) (ex := (H / 2 ^ (31 - fW f) % 2 ^ fW f : Nat) - (fB f : Int)) hf (by omega) ?_ hj
      rcases f3 hf with rfl | rfl | rfl
      · simp only [fW, fB, gE, fE, fD, List.getD_cons_zero]
        omega
      · simp only [fW, fB, gE, fE, fD, List.getD_cons_zero, List.getD_cons_succ]
        omega
      · simp only [fW, fB, gE, fE, fD, List.getD_cons_zero, List.getD_cons_succ]
        omega
    · next h2 =>
      have hj := jc_b f (4 * 2 ^ (29 - fW f) + H % 2 ^ (29 - fW f)) W (fD f)
      refine val_0 (fm := f) (ex := (H / 2 ^ (29 - fW f) % 2 ^ fW f : Nat) - (fB f : Int)) hf (by omega) ?_ hj
      rcases f3 hf with rfl | rfl | rfl
      · simp only [fW, fB, gE, fE, fD, List.getD_cons_zero]
        omega
      · simp only [fW, fB, gE, fE, fD, List.getD_cons_zero, List.getD_cons_succ]
        omega
      · simp only [fW, fB, gE, fE, fD, List.getD_cons_zero, List.getD_cons_succ]
        omega
section TOP
variable {h : ix_H} {Q : ix_O → ix_H → Prop} {S : Nat → AC} {σ : Stt} {n m s f : Nat} {e : ix_C} {x y w z : Int} {a b c d : Int32}
theorem v_load (I : Inv h S) (C : Cls S σ) (G : Rm S n m e) (hx : zr x) (hw : zr w) (q0 : ¬ ((0 ≤ x ∧ x < 8) ∧ (0 ≤ w ∧ w < 3)) → ∀ h' S', Inv h' S' → Pst S S' σ (n + 1) (m + 6) e → Q (.inr (11, n)) h') (q1 : (0 ≤ x ∧ x < 8) ∧ (0 ≤ w ∧ w < 3) → ∀ h' S', Inv h' S' → Pst S S' (va_up σ.1 x.toNat (dcD w.toNat a b c d), σ.2) n m e → Q (.inl none) h') : ix_M 27 [.ref 32, .int (zI x), .int (zI w), .int a, .int b, .int c, .int d] h Q := by
  have c1 := C.1
  obtain ⟨f33, c2, c2f⟩ := C.2.1
  obtain ⟨K, ⟨W, WW⟩, k63, WK⟩ := C.2.2.2.2.1
  have tJ : ∀ v : Bool, (v = true → (0 ≤ x ∧ x < 8) ∧ (0 ≤ w ∧ w < 3)) → (v = false → ¬ ((0 ≤ x ∧ x < 8) ∧ (0 ≤ w ∧ w < 3))) → ix_E 27 19 [some (.ref 32), some (.int (zI x)), some (.int (zI w)), some (.int a), some (.int b), some (.int c), some (.int d)] [.int (bI v)] h Q := by
    intro v hb1 hb0
    refine jcs (pc' := 22) 29 [_] [] rfl rfl rfl rfl rfl rfl rfl rfl ?_
    refine v_require I G (fun hb => jk ?_) (fun hb h' I' => jkt rfl ?_)
    · have cc := hb1 hb
      obtain ⟨k0, k1⟩ := hb1 hb
      rw [(zn hx (by omega)).1, (zn hw (by omega)).1]
      refine jx (pc' := 23) (L' := [_, _, _, _, _, _, _]) (st' := [_]) 1 rfl ?_
      refine jgf (pc' := 26) (I.ob (r := 32) c1) rfl rfl rfl rfl rfl ?_
      refine jx (pc' := 33) (L' := [_, _, _, _, _, _, _]) (st' := [_, _, _, _, _]) 4 rfl ?_
      refine jcv (pc' := 36) 91 [_, _, _, _] [] (I.ob (r := 61) K) rfl rfl rfl rfl rfl rfl rfl rfl ?_
      refine v_take4 I K WW fun h1 W' e0 e1 e2 e3 I => jk ?_
      have C1 : Cls (va_up S 62 (aC (cI 0 4 W'))) σ := C.bp ((ag_0 _ S).up (by decide)) ⟨W', rfl⟩ ⟨k63, WK⟩
      have X := C1.get (i := x.toNat) (by omega)
      refine jx (pc' := 37) (L' := [_, _, _, _, _, _, _]) (st' := [_]) 1 rfl ?_
      refine jgf (pc' := 40) (I.ob (r := 32) c1) rfl rfl rfl rfl rfl ?_
      refine jx (pc' := 42) (L' := [_, _, _, _, _, _, _]) (st' := [_, _, _]) 2 rfl ?_
      refine jgf (pc' := 45) (I.ob (r := 32) c1) rfl rfl rfl rfl rfl ?_
      refine jx (pc' := 46) (L' := [_, _, _, _, _, _, _]) (st' := [_, _, _, _]) 1 rfl ?_
      refine jaa (pc' := 47) (r := 33) (z := 71 + 3 * x.toNat) I c2 rfl rfl (by omega) (c2f _ (by omega)) rfl ?_
      refine jcv (pc' := 50) 92 [_, _] [] (I.ob (r := 61) K) rfl rfl rfl rfl rfl rfl rfl rfl ?_
      refine v_decode I K rfl WK X.2.1 X.2.2.1 X.2.2.2.2.1 X.2.2.2.z (by omega) (by omega) fun h2 T I g D' C' n63 => jk ?_
      rw [e0, dcR_cg (W' := w4 a b c d) e1 e2 e3] at D' C'
      refine ix_qr _ rfl rfl rfl ?_
      have gl : ∀ r, r < 71 → r ≠ 63 → T r = va_up S 62 (aC (cI 0 4 W')) r := fun r h1 h2 => g r (by simp; omega)
      have hfr : ∀ r, 98 ≤ r → T r = S r := fun r hr => by rw [g r (by simp; omega), va_up_ne _ _ (by omega)]
      -- the two steps: the pattern's cells, then the register
      have g62 : ag [62, 63] S (fun r => if r = 63 then T 63 else va_up S 62 (aC (cI 0 4 W')) r) := fun r hr => by
        simp at hr
        show (if r = 63 then T 63 else va_up S 62 (aC (cI 0 4 W')) r) = S r
        rw [if_neg hr.2, va_up_ne _ _ hr.1]
      have C2 : Cls (fun r => if r = 63 then T 63 else va_up S 62 (aC (cI 0 4 W')) r) σ := C.bp g62 ⟨W', rfl⟩ n63
      have C3 := C2.low (T := T) (G := va_up σ.1 x.toNat (dcD w.toNat a b c d)) (fun r hr => by
        show T r = if r = 63 then T 63 else va_up S 62 (aC (cI 0 4 W')) r
        by_cases e : r = 63
        · rw [e, if_pos rfl]
        · rw [if_neg e]; exact gl r hr e) (fun i hi => by
        by_cases e : i = x.toNat
        · subst e
          rw [va_up_self]
          exact ⟨by omega, D', C', val_dc (by omega)⟩
        · rw [va_up_ne _ _ e]
          obtain ⟨p1, p2, p3, p4⟩ := C1.get hi
          exact ⟨p1, (g _ (by simp; omega)).trans p2, (g _ (by simp; omega)).trans p3, p4⟩)
      exact q1 cc _ _ I ⟨C3, (gl 0 (by decide) (by decide)).trans G.1, hfr⟩
    · exact q0 (hb0 hb) _ _ I' (Pst.no C)
  have tF : ¬ ((0 ≤ x ∧ x < 8) ∧ (0 ≤ w ∧ w < 3)) → ix_E 27 18 [some (.ref 32), some (.int (zI x)), some (.int (zI w)), some (.int a), some (.int b), some (.int c), some (.int d)] [] h Q := by
    intro hc
    refine jx (pc' := 19) (L' := [_, _, _, _, _, _, _]) (st' := [.int (nI 0)]) 1 rfl ?_
    exact tJ false (fun z => nomatch z) (fun _ => hc)
  refine jx (pc' := 1) (L' := [_, _, _, _, _, _, _]) (st' := [_]) 1 rfl ?_
  refine jcs (pc' := 4) 28 [_] [] rfl rfl rfl rfl rfl rfl rfl rfl ?_
  refine c_isTarget hx (jk ?_)
  by_cases hc0 : (0 ≤ x ∧ x < 8)
  · skip
    refine jin (pc' := 7) 18 rfl rfl rfl rfl (by rw [bz_eq, decide_eq_true hc0]; rfl) ?_
    refine jx (pc' := 8) (L' := [_, _, _, _, _, _, _]) (st' := [_]) 1 rfl ?_
    refine jcs (pc' := 11) 44 [_] [] rfl rfl rfl rfl rfl rfl rfl rfl ?_
    refine c_exists I.tab hw (fun hc1 => jk ?_) (fun hc1 => jk ?_)
    · skip
      refine jin (pc' := 14) 18 rfl rfl rfl rfl (by rfl) ?_
      refine jx (pc' := 19) (L' := [_, _, _, _, _, _, _]) (st' := [.int (zI 1)]) 2 rfl ?_
      exact tJ true (fun _ => ⟨hc0, hc1⟩) (fun z => nomatch z)
    · skip
      refine jit (pc' := 18) rfl rfl rfl (by rfl) ?_
      exact tF (fun zz => hc1 zz.2)
  · skip
    refine jit (pc' := 18) rfl rfl rfl (by rw [bz_eq, decide_eq_false hc0]; rfl) ?_
    exact tF (fun zz => hc0 zz.1)
end TOP
