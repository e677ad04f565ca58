/-! ===== Arithmetic: rounding of x, product, quantized, makeWhole ===== -/
theorem cutV_le (x : Nat) (p : Int) (m : Bool) (d : Nat) (n : Bool) : cutV x p m d n ≤ x / 10 ^ p.toNat + 1 := by
  unfold cutV
  have := tn2 (cutI x p m && grw d (dAt x (p - 1)) (m || decide (x % 10 ^ (p - 1).toNat ≠ 0)) (decide (x / 10 ^ p.toNat % 2 = 1)) n)
  omega
theorem cutV_le1 (x : Nat) (p : Int) (m : Bool) (d : Nat) (n : Bool) : cutV x p m d n ≤ x + 1 := Nat.le_trans (cutV_le x p m d n) (Nat.succ_le_succ (Nat.div_le_self _ _))
theorem cut0 {x : Nat} {p : Int} {d : Nat} {n : Bool} (h : p ≤ 0) : cutI x p false = false ∧ cutV x p false d n = x := by
  have e1 : dAt x (p - 1) = 0 := by unfold dAt; rw [if_pos (by omega)]
  have e2 : (p - 1).toNat = 0 := by omega
  have e3 : p.toNat = 0 := by omega
  have c : cutI x p false = false := by
    unfold cutI
    rw [e1, e2, Nat.pow_zero, Nat.mod_one]
    rfl
  refine ⟨c, ?_⟩
  unfold cutV
  rw [c, e3, Nat.pow_zero, Nat.div_one]
  rfl
theorem rOvf_b {fm dir : Nat} {ng : Bool} (hf : fm < 3) : (rOvf fm dir ng).1 < 4 ∧ zr (rOvf fm dir ng).2.1 ∧ (rOvf fm dir ng).2.2.2 < 32 := by
  have := gEb hf
  unfold rOvf
  generalize (decide (dir = 0) || decide (dir = 4) || (if ng then decide (dir = 3) else decide (dir = 2))) = bb
  cases bb with
  | true => exact ⟨(by decide : 1 < 4), zr0, (by decide : 20 < 32)⟩
  | false => exact ⟨(by decide : 0 < 4), (⟨by omega, by omega⟩ : zr (gE fm)), (by decide : 20 < 32)⟩
theorem fl_b (p : Prop) [Decidable p] : (if p then 24 else 16) < 32 := by split <;> decide
theorem rInx_b {fm dir c : Nat} {ng mo : Bool} {ex : Int} (hf : fm < 3) : (rInx fm dir ng mo ex c).1 < 4 ∧ zr (rInx fm dir ng mo ex c).2.1 ∧ (rInx fm dir ng mo ex c).2.2.2 < 32 := by
  have g := gEb hf
  obtain ⟨f1, f2, f3, f4, f5, f6, f7⟩ := f3b hf
  have hq0 : rQ fm ex c = max (ex + dgs c - fD fm) (-(fB fm : Int)) := rfl
  unfold rInx
  split
  · exact rOvf_b hf
  · split
    · split
      · exact rOvf_b hf
      · exact ⟨(by decide : 0 < 4), ⟨by dsimp only; omega, by dsimp only; omega⟩, fl_b _⟩
    · exact ⟨(by decide : 0 < 4), ⟨by dsimp only; omega, by dsimp only; omega⟩, fl_b _⟩
theorem rRnd_b {fm dir c : Nat} {ng mo : Bool} {ex wi : Int} (hf : fm < 3) : (rRnd fm dir ng mo ex wi c).1 < 4 ∧ zr (rRnd fm dir ng mo ex wi c).2.1 ∧ (rRnd fm dir ng mo ex wi c).2.2.2 < 32 := by
  have g := gEb hf
  obtain ⟨f1, f2, f3, f4, f5, f6, f7⟩ := f3b hf
  unfold rRnd
  split
  · exact rInx_b hf
  · split
    · exact ⟨(by decide : 0 < 4), ⟨by dsimp only; omega, by dsimp only; omega⟩, (by decide : 0 < 32)⟩
    · split
      · exact rInx_b hf
      · next hn => exact ⟨(by decide : 0 < 4), ⟨by dsimp only; omega, by dsimp only; omega⟩, (by decide : 0 < 32)⟩
/-- a result, rounded if it is still to be rounded -/
noncomputable def rdo (dir : Nat) (d : Dm) (o : OR) : Dm × Nat := match o with
  | .inl x => x
  | .inr u => ((d.1, (rRnd d.1 dir u.1 u.2.1 u.2.2.1 u.2.2.2.1 u.2.2.2.2).1, u.1, (rRnd d.1 dir u.1 u.2.1 u.2.2.1 u.2.2.2.1 u.2.2.2.2).2.1, (rRnd d.1 dir u.1 u.2.1 u.2.2.1 u.2.2.2.1 u.2.2.2.2).2.2.1), (rRnd d.1 dir u.1 u.2.1 u.2.2.1 u.2.2.2.1 u.2.2.2.2).2.2.2)
section ART
variable {h : ix_H} {Q : ix_O → ix_H → Prop} {S : Nat → AC} {a b c what cx cy dir : Nat} {da db dc dr : Dm} {nx ny nB : Bool} {ex ey wx wy : Int}
theorem v_roundR {u : Bool × Bool × Int × Int × Nat} (I : Inv h S) (L : Lay S) (R : ResD S dr) (X : S 38 = aC (uC 38 u.1 u.2.1 u.2.2.1 u.2.2.2.1)) (XC : S 39 = aN u.2.2.2.2) (hu : UB u) (hd : dir < 5) (q : ∀ h' S', Inv h' S' → Lay S' → ag arl S S' → ResD S' (rdo dir dr (.inr u)).1 → Q (.inl (some (.int (nI (rdo dir dr (.inr u)).2)))) h') : ix_M 103 [.ref 38, .int (nI dir), .ref 35] h Q := by
  obtain ⟨r1, r2, r3, r4, r5⟩ := R
  obtain ⟨u1, u2, u3, u4, u5⟩ := hu
  have bb := rRnd_b (fm := dr.1) (dir := dir) (ng := u.1) (mo := u.2.1) (ex := u.2.2.1) (wi := u.2.2.2.1) (c := u.2.2.2.2) r3
  refine v_round I X XC r1 r2 hd r3 r4 r5 u1 ⟨u2, u3⟩ ⟨u4, u5⟩ fun h' S' I' g e1 e2 e3 => ?_
  exact q h' S' I' (L.agr g (by decide) e3) (g.w (by decide)) ⟨e1, e2, r3, bb.1, bb.2.1⟩
/-- Arithmetic.product -/
theorem v_product (I : Inv h S) (L : Lay S) (R : ResD S da) (A : RegD S a da) (B : RegD S b db) (q : ∀ h' S' v, Inv h' S' → Lay S' → ag arl S S' → Out S' da (prR da db) v → Q (.inl (some v)) h') : ix_M 122 [.ref 34, .ref a, .ref b] h Q := by
  obtain ⟨wn, AR⟩ := L.1
  have A2 := A.2.1
  have B2 := B.2.1
  have A3 := A.2.2.1
  have B3 := B.2.2.1
  have vA := A.2.2.2
  have vB := B.2.2.2
  have bA := vA.b
  have bB := vB.b
  unfold prR at q
  have t2 : ¬ (((da.2.1 = 0 ∧ da.2.2.2.2 = 0) ∧ db.2.1 = 1) ∨ (da.2.1 = 1 ∧ (db.2.1 = 0 ∧ db.2.2.2.2 = 0))) → (da.2.1 = 1 ∨ db.2.1 = 1) → ix_E 122 47 [some (.ref 34), some (.ref a), some (.ref b)] [] h Q := by
    intro n1 n2
    simp only [if_neg n1, if_pos n2] at q
    have t : ∀ n : Bool, n = decide (¬ da.2.2.1 = db.2.2.1) → ix_E 122 64 [some (.ref 34), some (.ref a), some (.ref b)] [.int (bI n), .ref 34] h Q := by
      intro n hn
      rw [← hn] at q
      refine jcv (pc' := 67) 118 [_] [] (I.ob (r := 34) AR) rfl rfl rfl rfl rfl rfl rfl rfl ?_
      refine v_infinite I L R fun h' S' I' L' g R' => jk ?_
      refine jri rfl rfl ?_
      exact q _ _ _ I' L' (g.w (by decide)) ⟨R', (by decide : 0 < 32), rfl⟩
    refine jx (pc' := 49) (L' := [_, _, _]) (st' := [_, _]) 2 rfl ?_
    refine jgf (pc' := 52) (I.ob (r := a) A2) rfl rfl rfl rfl rfl ?_
    refine jx (pc' := 53) (L' := [_, _, _]) (st' := [_, _, _]) 1 rfl ?_
    refine jgf (pc' := 56) (I.ob (r := b) B2) rfl rfl rfl rfl rfl ?_
    by_cases e : da.2.2.1 = db.2.2.1
    · skip
      refine jct (pc' := 63) rfl rfl rfl (by rw [bc_eq]; exact decide_eq_true e) ?_
      refine jx (pc' := 64) (L' := [_, _, _]) (st' := [.int (nI 0), _]) 1 rfl ?_
      exact t false (decide_eq_false (fun z => z e)).symm
    · skip
      refine jcn (pc' := 59) 63 rfl rfl rfl rfl (by rw [bc_eq]; exact decide_eq_false e) ?_
      refine jx (pc' := 64) (L' := [_, _, _]) (st' := [.int (nI 1), _]) 2 rfl ?_
      exact t true (decide_eq_true e).symm
  have t1 : ¬ (((da.2.1 = 0 ∧ da.2.2.2.2 = 0) ∧ db.2.1 = 1) ∨ (da.2.1 = 1 ∧ (db.2.1 = 0 ∧ db.2.2.2.2 = 0))) → ix_E 122 33 [some (.ref 34), some (.ref a), some (.ref b)] [] h Q := by
    intro n1
    refine jx (pc' := 34) (L' := [_, _, _]) (st' := [_]) 1 rfl ?_
    refine jcv (pc' := 37) 78 [] [] (I.ob (r := a) A2) rfl rfl rfl rfl rfl rfl rfl rfl ?_
    refine v_isInfinite I A2 vA.2.1 (jk ?_)
    by_cases e1 : da.2.1 = 1
    · skip
      refine jit (pc' := 47) rfl rfl rfl (by rw [bz_ne]; simp [e1]) ?_
      exact t2 n1 (Or.inl e1)
    · skip
      refine jin (pc' := 40) 47 rfl rfl rfl rfl (by rw [bz_ne]; simp [e1]) ?_
      refine jx (pc' := 41) (L' := [_, _, _]) (st' := [_]) 1 rfl ?_
      refine jcv (pc' := 44) 78 [] [] (I.ob (r := b) B2) rfl rfl rfl rfl rfl rfl rfl rfl ?_
      refine v_isInfinite I B2 vB.2.1 (jk ?_)
      by_cases e2 : db.2.1 = 1
      · skip
        refine jin (pc' := 47) 68 rfl rfl rfl rfl (by rw [bz_eq]; simp [e2]) ?_
        exact t2 n1 (Or.inr e2)
      · have n2 : ¬ (da.2.1 = 1 ∨ db.2.1 = 1) := fun z => z.elim e1 e2
        simp only [if_neg n1, if_neg n2] at q
        refine jit (pc' := 68) rfl rfl rfl (by rw [bz_eq]; simp [e2]) ?_
        refine jx (pc' := 71) (L' := [_, _, _]) (st' := [_, _, _]) 3 rfl ?_
        refine jcv (pc' := 74) 123 [_, _] [] (I.ob (r := 34) AR) rfl rfl rfl rfl rfl rfl rfl rfl ?_
        refine v_multiplyIntoX I L A B fun h' S' I' L' g X' XC' => jk ?_
        refine jx (pc' := 75) (L' := [_, _, _]) (st' := [_]) 1 rfl ?_
        refine jri rfl rfl ?_
        have hp : da.2.2.2.2 * db.2.2.2.2 < 10 ^ 138 := Nat.lt_of_lt_of_le (Nat.mul_lt_mul'' vA.c vB.c) (by rw [← Nat.pow_add]; exact pl (by decide))
        exact q _ _ _ I' L' (g.w (by decide)) ⟨⟨g.at 35 (by decide) R.1, g.at 36 (by decide) R.2.1, R.2.2⟩, X', XC', ⟨b138 hp, by dsimp only; omega, by dsimp only; omega, by dsimp only; omega, by dsimp only; omega⟩, rfl⟩
  have t0 : (((da.2.1 = 0 ∧ da.2.2.2.2 = 0) ∧ db.2.1 = 1) ∨ (da.2.1 = 1 ∧ (db.2.1 = 0 ∧ db.2.2.2.2 = 0))) → ix_E 122 28 [some (.ref 34), some (.ref a), some (.ref b)] [] h Q := by
    intro n1
    simp only [if_pos n1] at q
    refine jx (pc' := 29) (L' := [_, _, _]) (st' := [_]) 1 rfl ?_
    refine jcv (pc' := 32) 117 [] [] (I.ob (r := 34) AR) rfl rfl rfl rfl rfl rfl rfl rfl ?_
    refine v_invalid I L R fun h' S' I' L' g R' => jk ?_
    refine jri rfl rfl ?_
    exact q _ _ _ I' L' (g.w (by decide)) ⟨R', (by decide : 1 < 32), rfl⟩
  have ts : ¬ ((da.2.1 = 0 ∧ da.2.2.2.2 = 0) ∧ db.2.1 = 1) → ix_E 122 14 [some (.ref 34), some (.ref a), some (.ref b)] [] h Q := by
    intro n1
    refine jx (pc' := 15) (L' := [_, _, _]) (st' := [_]) 1 rfl ?_
    refine jcv (pc' := 18) 78 [] [] (I.ob (r := a) A2) rfl rfl rfl rfl rfl rfl rfl rfl ?_
    refine v_isInfinite I A2 vA.2.1 (jk ?_)
    by_cases e1 : da.2.1 = 1
    · skip
      refine jin (pc' := 21) 33 rfl rfl rfl rfl (by rw [bz_eq]; simp [e1]) ?_
      refine jx (pc' := 22) (L' := [_, _, _]) (st' := [_]) 1 rfl ?_
      refine jcv (pc' := 25) 80 [] [] (I.ob (r := b) B2) rfl rfl rfl rfl rfl rfl rfl rfl ?_
      refine v_isZero I B2 B3 vB.2.1 (jk ?_)
      by_cases e2 : db.2.1 = 0 ∧ db.2.2.2.2 = 0
      · skip
        refine jin (pc' := 28) 33 rfl rfl rfl rfl (by rw [bz_eq]; simp [e2]) ?_
        exact t0 (Or.inr ⟨e1, e2⟩)
      · skip
        refine jit (pc' := 33) rfl rfl rfl (by rw [bz_eq]; simp; omega) ?_
        exact t1 (fun z => z.elim n1 (fun w => e2 w.2))
    · skip
      refine jit (pc' := 33) rfl rfl rfl (by rw [bz_eq]; simp [e1]) ?_
      exact t1 (fun z => z.elim n1 (fun w => e1 w.1))
  refine jx (pc' := 1) (L' := [_, _, _]) (st' := [_]) 1 rfl ?_
  refine jcv (pc' := 4) 80 [] [] (I.ob (r := a) A2) rfl rfl rfl rfl rfl rfl rfl rfl ?_
  refine v_isZero I A2 A3 vA.2.1 (jk ?_)
  by_cases e1 : da.2.1 = 0 ∧ da.2.2.2.2 = 0
  · skip
    refine jin (pc' := 7) 14 rfl rfl rfl rfl (by rw [bz_eq]; simp [e1]) ?_
    refine jx (pc' := 8) (L' := [_, _, _]) (st' := [_]) 1 rfl ?_
    refine jcv (pc' := 11) 78 [] [] (I.ob (r := b) B2) rfl rfl rfl rfl rfl rfl rfl rfl ?_
    refine v_isInfinite I B2 vB.2.1 (jk ?_)
    by_cases e2 : db.2.1 = 1
    · skip
      refine jit (pc' := 28) rfl rfl rfl (by rw [bz_ne]; simp [e2]) ?_
      exact t0 (Or.inl ⟨e1, e2⟩)
    · skip
      refine jin (pc' := 14) 28 rfl rfl rfl rfl (by rw [bz_ne]; simp [e2]) ?_
      exact ts (fun z => e2 z.2)
  · skip
    refine jit (pc' := 14) rfl rfl rfl (by rw [bz_eq]; simp; omega) ?_
    exact ts (fun z => e1 z.1)
/-- Arithmetic.makeWhole -/
def mwR (dir : Nat) (d : Dm) : Dm × Bool := if d.2.1 = 0 ∧ d.2.2.2.1 < 0 then ((d.1, d.2.1, d.2.2.1, 0, cutV d.2.2.2.2 (-d.2.2.2.1) false dir d.2.2.1), cutI d.2.2.2.2 (-d.2.2.2.1) false) else (d, false)
theorem v_makeWhole (I : Inv h S) (L : Lay S) (R : ResD S dr) (hd : dir < 5) (hv : Val dr.1 dr.2.1 dr.2.2.2.1 dr.2.2.2.2) (q : ∀ h' S', Inv h' S' → Lay S' → ag [35, 36] S S' → ResD S' (mwR dir dr).1 → Q (.inl (some (.int (bI (mwR dir dr).2)))) h') : ix_M 135 [.ref 34, .int (nI dir)] h Q := by
  obtain ⟨wn, AR⟩ := L.1
  obtain ⟨r1, r2, r3, r4, r5⟩ := R
  have hb := hv.b
  have hc := hv.c
  unfold mwR at q
  refine jx (pc' := 1) (L' := [_, _, _]) (st' := [_]) 1 rfl ?_
  refine jgf (pc' := 4) (I.ob (r := 34) AR) rfl rfl rfl rfl rfl ?_
  refine jcv (pc' := 7) 82 [] [] (I.ob (r := 35) r1) rfl rfl rfl rfl rfl rfl rfl rfl ?_
  refine v_isFinite (r := 35) I r1 r4 (jk ?_)
  have t : ¬ (dr.2.1 = 0 ∧ dr.2.2.2.1 < 0) → ix_E 135 20 [some (.ref 34), some (.int (nI dir)), none] [] h Q := by
    intro hn
    simp only [if_neg hn] at q
    refine jx (pc' := 21) (L' := [_, _, _]) (st' := [.int (zI 0)]) 1 rfl ?_
    refine ix_qr _ rfl rfl rfl ?_
    exact q h S I L (ag_0 _ S) ⟨r1, r2, r3, r4, r5⟩
  by_cases e1 : dr.2.1 = 0
  · skip
    refine jin (pc' := 10) 20 rfl rfl rfl rfl (by rw [bz_eq]; simp [e1]) ?_
    refine jx (pc' := 11) (L' := [_, _, _]) (st' := [_]) 1 rfl ?_
    refine jgf (pc' := 14) (I.ob (r := 34) AR) rfl rfl rfl rfl rfl ?_
    refine jgf (pc' := 17) (I.ob (r := 35) r1) rfl rfl rfl rfl rfl ?_
    by_cases e2 : dr.2.2.2.1 < 0
    · have hn : dr.2.1 = 0 ∧ dr.2.2.2.1 < 0 := ⟨e1, e2⟩
      simp only [if_pos hn] at q
      refine jit (pc' := 22) rfl rfl rfl (by rw [zz_lt ⟨by omega, by omega⟩]; exact decide_eq_true (by omega)) ?_
      refine jx (pc' := 23) (L' := [_, _, _]) (st' := [_]) 1 rfl ?_
      refine jgf (pc' := 26) (I.ob (r := 34) AR) rfl rfl rfl rfl rfl ?_
      refine jgf (pc' := 29) (I.ob (r := 35) r1) rfl rfl rfl rfl rfl ?_
      refine jx (pc' := 32) (L' := [_, _, _]) (st' := [_]) 3 rfl ?_
      try simp (disch := omega) only [kz, kzl0, kzl1, kzb, kzs, zI_add, zI_sub, zI_neg, zI_mul, zL_i, zI_l, zL_add, zL_sub, zL_neg]
      refine jgf (pc' := 35) (I.ob (r := 34) AR) rfl rfl rfl rfl rfl ?_
      refine jx (pc' := 36) (L' := [_, _, _]) (st' := [.int (zI 0), _]) 1 rfl ?_
      refine jpA (pc' := 39) (r := 35) I r1 rfl rfl rfl (Nat.le_of_ble_eq_true rfl) (by intro z; cases z) rfl rfl rfl fun _ I r1 => ?_
      refine jx (pc' := 40) (L' := [_, _, _]) (st' := [_]) 1 rfl ?_
      refine jgf (pc' := 43) (I.ob (r := 34) AR) rfl rfl rfl rfl rfl ?_
      refine jgf (pc' := 46) (I.ob (r := 35) r1) rfl rfl rfl rfl rfl ?_
      refine jx (pc' := 50) (L' := [_, _, _]) (st' := [_, _, .int (zI 0), _, _]) 4 rfl ?_
      refine jgf (pc' := 53) (I.ob (r := 34) AR) rfl rfl rfl rfl rfl ?_
      refine jgf (pc' := 56) (I.ob (r := 35) r1) rfl rfl rfl rfl rfl ?_
      refine jcs (pc' := 59) 101 [_, _, .int (zI 0), _, _] [] rfl rfl rfl rfl rfl rfl rfl rfl ?_
      refine v_cut (a := 36) (p := -dr.2.2.2.1) (more := false) I r2 ⟨by omega, by omega⟩ hd (by have : (10 : Nat) ^ 34 < 10 ^ 144 := plt (by decide); omega) fun _ I => jk ?_
      refine jrb rfl rfl ?_
      exact q _ _ I L.up35.up36 (((ag_0 _ S).up (by decide)).up (by decide)) ⟨rfl, rfl, r3, r4, zr0⟩
    · skip
      refine jin (pc' := 20) 22 rfl rfl rfl rfl (by rw [zz_lt ⟨by omega, by omega⟩]; exact decide_eq_false (by omega)) ?_
      exact t (fun z => e2 z.2)
  · skip
    refine jit (pc' := 20) rfl rfl rfl (by rw [bz_eq]; simp [e1]) ?_
    exact t (fun z => e1 z.1)
end ART
