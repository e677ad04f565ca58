/-! ===== Arithmetic: what stands where; NaNs, invalid, infinite ===== -/
abbrev arC (wn : Int64) : ix_C := cO 7 [.ref 35, .long wn, .ref 38, .ref 41, .ref 44, .ref 47, .ref 50, .ref 52, .ref 54, .ref 56]
def isN (S : Nat → AC) (r : Nat) : Prop := ∃ v : Nat, S r = aN v
abbrev cR (R : Nat → Nat) : ix_C := cI 0 17 (fun j => nI (R j))
def isR (S : Nat → AC) (r : Nat) : Prop := ∃ R : Nat → Nat, S r = aC (cR R)
def Lay (S : Nat → AC) : Prop := (∃ wn, S 34 = aC (arC wn)) ∧ isU S 38 ∧ isU S 41 ∧ S 44 = aC (cO 2 [.ref 45, .ref 46]) ∧ isR S 45 ∧ isR S 46 ∧ S 47 = aC (cO 6 [.ref 48]) ∧ isN S 48 ∧ isN S 50 ∧ isN S 52 ∧ isN S 54 ∧ isN S 56
section LAY
variable {S : Nat → AC} {x : AC} {v : Nat} {ng mo : Bool} {ex wi : Int} {R : Nat → Nat} {wn : Int64}
theorem Lay.up35 (L : Lay S) : Lay (va_up S 35 x) := by
  obtain ⟨a, x, y, d, r1, r2, c, n48, n50, n52, n54, n56⟩ := L
  exact ⟨a, x, y, d, r1, r2, c, n48, n50, n52, n54, n56⟩
theorem Lay.up36 (L : Lay S) : Lay (va_up S 36 x) := by
  obtain ⟨a, x, y, d, r1, r2, c, n48, n50, n52, n54, n56⟩ := L
  exact ⟨a, x, y, d, r1, r2, c, n48, n50, n52, n54, n56⟩
theorem Lay.up38 (L : Lay S) : Lay (va_up S 38 (aC (uC 38 ng mo ex wi))) := by
  obtain ⟨a, x, y, d, r1, r2, c, n48, n50, n52, n54, n56⟩ := L
  exact ⟨a, (let ⟨_, _, _, _, c, _, h⟩ := x; ⟨_, _, _, _, c, rfl, h⟩), y, d, r1, r2, c, n48, n50, n52, n54, n56⟩
theorem Lay.up39 (L : Lay S) : Lay (va_up S 39 (aN v)) := by
  obtain ⟨a, x, y, d, r1, r2, c, n48, n50, n52, n54, n56⟩ := L
  exact ⟨a, (let ⟨_, _, _, _, _, h, _⟩ := x; ⟨_, _, _, _, _, h, rfl⟩), y, d, r1, r2, c, n48, n50, n52, n54, n56⟩
theorem Lay.up41 (L : Lay S) : Lay (va_up S 41 (aC (uC 41 ng mo ex wi))) := by
  obtain ⟨a, x, y, d, r1, r2, c, n48, n50, n52, n54, n56⟩ := L
  exact ⟨a, x, (let ⟨_, _, _, _, c, _, h⟩ := y; ⟨_, _, _, _, c, rfl, h⟩), d, r1, r2, c, n48, n50, n52, n54, n56⟩
theorem Lay.up42 (L : Lay S) : Lay (va_up S 42 (aN v)) := by
  obtain ⟨a, x, y, d, r1, r2, c, n48, n50, n52, n54, n56⟩ := L
  exact ⟨a, x, (let ⟨_, _, _, _, _, h, _⟩ := y; ⟨_, _, _, _, _, h, rfl⟩), d, r1, r2, c, n48, n50, n52, n54, n56⟩
theorem Lay.up45 (L : Lay S) : Lay (va_up S 45 (aC (cR R))) := by
  obtain ⟨a, x, y, d, r1, r2, c, n48, n50, n52, n54, n56⟩ := L
  exact ⟨a, x, y, d, ⟨_, rfl⟩, r2, c, n48, n50, n52, n54, n56⟩
theorem Lay.up46 (L : Lay S) : Lay (va_up S 46 (aC (cR R))) := by
  obtain ⟨a, x, y, d, r1, r2, c, n48, n50, n52, n54, n56⟩ := L
  exact ⟨a, x, y, d, r1, ⟨_, rfl⟩, c, n48, n50, n52, n54, n56⟩
theorem Lay.up48 (L : Lay S) : Lay (va_up S 48 (aN v)) := by
  obtain ⟨a, x, y, d, r1, r2, c, n48, n50, n52, n54, n56⟩ := L
  exact ⟨a, x, y, d, r1, r2, c, ⟨_, rfl⟩, n50, n52, n54, n56⟩
theorem Lay.up50 (L : Lay S) : Lay (va_up S 50 (aN v)) := by
  obtain ⟨a, x, y, d, r1, r2, c, n48, n50, n52, n54, n56⟩ := L
  exact ⟨a, x, y, d, r1, r2, c, n48, ⟨_, rfl⟩, n52, n54, n56⟩
theorem Lay.up52 (L : Lay S) : Lay (va_up S 52 (aN v)) := by
  obtain ⟨a, x, y, d, r1, r2, c, n48, n50, n52, n54, n56⟩ := L
  exact ⟨a, x, y, d, r1, r2, c, n48, n50, ⟨_, rfl⟩, n54, n56⟩
theorem Lay.up54 (L : Lay S) : Lay (va_up S 54 (aN v)) := by
  obtain ⟨a, x, y, d, r1, r2, c, n48, n50, n52, n54, n56⟩ := L
  exact ⟨a, x, y, d, r1, r2, c, n48, n50, n52, ⟨_, rfl⟩, n56⟩
theorem Lay.up56 (L : Lay S) : Lay (va_up S 56 (aN v)) := by
  obtain ⟨a, x, y, d, r1, r2, c, n48, n50, n52, n54, n56⟩ := L
  exact ⟨a, x, y, d, r1, r2, c, n48, n50, n52, n54, ⟨_, rfl⟩⟩
theorem Lay.up34 (L : Lay S) : Lay (va_up S 34 (aC (arC wn))) := by
  obtain ⟨a, x, y, d, r1, r2, c, n48, n50, n52, n54, n56⟩ := L
  exact ⟨⟨_, rfl⟩, x, y, d, r1, r2, c, n48, n50, n52, n54, n56⟩
theorem Lay.agr {l : List Nat} {T : Nat → AC} (L : Lay S) (g : ag l S T) (hl : ∀ r, r ∈ l → r = 35 ∨ r = 36 ∨ r = 38 ∨ r = 39) (hu : isU T 38) : Lay T := by
  obtain ⟨⟨wn, a⟩, x, ⟨n, m, e, w, c, y1, y2⟩, d, ⟨f1, r1⟩, ⟨f2, r2⟩, cm, ⟨v1, n48⟩, ⟨v2, n50⟩, ⟨v3, n52⟩, ⟨v4, n54⟩, ⟨v5, n56⟩⟩ := L
  have k : ∀ r : Nat, ¬ (r = 35 ∨ r = 36 ∨ r = 38 ∨ r = 39) → r ∉ l := fun r hr z => hr (hl r z)
  exact ⟨⟨wn, g.at 34 (k _ (by omega)) a⟩, hu, ⟨n, m, e, w, c, g.at 41 (k _ (by omega)) y1, g.at 42 (k _ (by omega)) y2⟩, g.at 44 (k _ (by omega)) d, ⟨f1, g.at 45 (k _ (by omega)) r1⟩, ⟨f2, g.at 46 (k _ (by omega)) r2⟩, g.at 47 (k _ (by omega)) cm, ⟨v1, g.at 48 (k _ (by omega)) n48⟩, ⟨v2, g.at 50 (k _ (by omega)) n50⟩, ⟨v3, g.at 52 (k _ (by omega)) n52⟩, ⟨v4, g.at 54 (k _ (by omega)) n54⟩, ⟨v5, g.at 56 (k _ (by omega)) n56⟩⟩
end LAY
/-- a datum: format, kind, sign, exponent, coefficient -/
abbrev Dm : Type := Nat × Nat × Bool × Int × Nat
abbrev RegD (S : Nat → AC) (a : Nat) (d : Dm) : Prop := Reg S a d.1 d.2.1 d.2.2.1 d.2.2.2.1 d.2.2.2.2
def ResD (S : Nat → AC) (d : Dm) : Prop := S 35 = aC (dC 35 d.1 d.2.1 d.2.2.1 d.2.2.2.1) ∧ S 36 = aN d.2.2.2.2 ∧ d.1 < 3 ∧ d.2.1 < 4 ∧ zr d.2.2.2.1
/-- the cells of the arithmetic that its operations write -/
def arl : List Nat := [35, 36, 38, 39, 41, 42, 45, 46, 48, 50, 52, 54, 56]
theorem zr0 : zr 0 := ⟨by decide, by decide⟩
theorem arl_lt : ∀ r, r ∈ arl → r < 71 := by decide
section ART
variable {h : ix_H} {Q : ix_O → ix_H → Prop} {S : Nat → AC} {a b c : Nat} {da db dc dr : Dm}
theorem v_copyR (I : Inv h S) (R : ResD S dr) (A : RegD S a da) (q : ∀ h', Inv h' (va_up (va_up S 35 (aC (dC 35 da.1 da.2.1 da.2.2.1 da.2.2.2.1))) 36 (aN da.2.2.2.2)) → ResD (va_up (va_up S 35 (aC (dC 35 da.1 da.2.1 da.2.2.1 da.2.2.2.1))) 36 (aN da.2.2.2.2)) da → Q (.inl none) h') : ix_M 85 [.ref 35, .ref a] h Q := by
  obtain ⟨r1, r2, r3, r4, r5⟩ := R
  obtain ⟨a1, a2, a3, va⟩ := A
  refine v_dcopy (r := 35) I r1 r2 a2 a3 r3 r4 r5 va.1 va.2.1 va.z (by omega) fun _ I => ?_
  exact q _ I ⟨rfl, rfl, va.1, va.2.1, va.z⟩
/-- Arithmetic.invalid, infinite -/
theorem v_invalid (I : Inv h S) (L : Lay S) (R : ResD S dr) (q : ∀ h' S', Inv h' S' → Lay S' → ag [35, 36] S S' → ResD S' (dr.1, 3, false, 0, 0) → Q (.inl (some (.int (nI 1)))) h') : ix_M 117 [.ref 34] h Q := by
  obtain ⟨r1, r2, r3, r4, r5⟩ := R
  obtain ⟨wn, AR⟩ := L.1
  refine jx (pc' := 1) (L' := [_]) (st' := [_]) 1 rfl ?_
  refine jgf (pc' := 4) (I.ob (r := 34) AR) rfl rfl rfl rfl rfl ?_
  refine jx (pc' := 5) (L' := [_]) (st' := [.int (nI 3), _]) 1 rfl ?_
  refine jcv (pc' := 8) 83 [.int (nI 3)] [] (I.ob (r := 35) r1) rfl rfl rfl rfl rfl rfl rfl rfl ?_
  refine v_setSpecial (r := 35) I r1 r2 r3 r4 r5 fun _ I => jk ?_
  have r1 : va_up (va_up S 35 (aC (dC 35 dr.1 3 dr.2.2.1 0))) 36 (aN 0) 35 = aC (dC 35 dr.1 3 dr.2.2.1 0) := rfl
  refine jx (pc' := 9) (L' := [_]) (st' := [_]) 1 rfl ?_
  refine jgf (pc' := 12) (I.ob (r := 34) AR) rfl rfl rfl rfl rfl ?_
  refine jx (pc' := 13) (L' := [_]) (st' := [.int (nI 0), _]) 1 rfl ?_
  refine jpA (pc' := 16) (r := 35) I r1 rfl rfl rfl (Nat.le_of_ble_eq_true rfl) (by intro z; cases z) rfl rfl rfl fun _ I r1 => ?_
  refine jx (pc' := 17) (L' := [_]) (st' := [.int (nI 1)]) 1 rfl ?_
  refine jri rfl rfl ?_
  exact q _ _ I L.up35.up36.up35 ((((ag_0 _ S).up (by decide)).up (by decide)).up (by decide)) ⟨rfl, rfl, r3, (by decide : 3 < 4), zr0⟩
theorem v_infinite {n : Bool} (I : Inv h S) (L : Lay S) (R : ResD S dr) (q : ∀ h' S', Inv h' S' → Lay S' → ag [35, 36] S S' → ResD S' (dr.1, 1, n, 0, 0) → Q (.inl (some (.int (nI 0)))) h') : ix_M 118 [.ref 34, .int (bI n)] h Q := by
  obtain ⟨r1, r2, r3, r4, r5⟩ := R
  obtain ⟨wn, AR⟩ := L.1
  refine jx (pc' := 1) (L' := [_, _]) (st' := [_]) 1 rfl ?_
  refine jgf (pc' := 4) (I.ob (r := 34) AR) rfl rfl rfl rfl rfl ?_
  refine jx (pc' := 5) (L' := [_, _]) (st' := [.int (nI 1), _]) 1 rfl ?_
  refine jcv (pc' := 8) 83 [.int (nI 1)] [] (I.ob (r := 35) r1) rfl rfl rfl rfl rfl rfl rfl rfl ?_
  refine v_setSpecial (r := 35) I r1 r2 r3 r4 r5 fun _ I => jk ?_
  have r1 : va_up (va_up S 35 (aC (dC 35 dr.1 1 dr.2.2.1 0))) 36 (aN 0) 35 = aC (dC 35 dr.1 1 dr.2.2.1 0) := rfl
  refine jx (pc' := 9) (L' := [_, _]) (st' := [_]) 1 rfl ?_
  refine jgf (pc' := 12) (I.ob (r := 34) AR) rfl rfl rfl rfl rfl ?_
  refine jx (pc' := 13) (L' := [_, _]) (st' := [_, _]) 1 rfl ?_
  refine jpA (pc' := 16) (r := 35) I r1 rfl rfl rfl (Nat.le_of_ble_eq_true rfl) (by intro z; cases z) (nb _) (fb _) rfl fun _ I r1 => ?_
  refine jx (pc' := 17) (L' := [_, _]) (st' := [.int (nI 0)]) 1 rfl ?_
  refine jri rfl rfl ?_
  exact q _ _ I L.up35.up36.up35 ((((ag_0 _ S).up (by decide)).up (by decide)).up (by decide)) ⟨rfl, rfl, r3, (by decide : 1 < 4), zr0⟩
/-- which NaN goes on -/
def nanS (A B C : Dm) : Bool := decide (A.2.1 = 2) || (decide (B.2.1 = 2) || decide (C.2.1 = 2))
def nanP (A B C : Dm) : Dm := if A.2.1 = (if nanS A B C then 2 else 3) then A else if B.2.1 = (if nanS A B C then 2 else 3) then B else C
theorem v_passNaN (I : Inv h S) (L : Lay S) (R : ResD S dr) (A : RegD S a da) (B : RegD S b db) (C : RegD S c dc) (q : ∀ h' S', Inv h' S' → Lay S' → ag [35, 36] S S' → ResD S' ((nanP da db dc).1, 3, (nanP da db dc).2.2.1, (nanP da db dc).2.2.2.1, (nanP da db dc).2.2.2.2) → Q (.inl (some (.int (nI (nanS da db dc).toNat)))) h') : ix_M 115 [.ref 34, .ref a, .ref b, .ref c] h Q := by
  obtain ⟨wn, AR⟩ := L.1
  have hA := A.2.2.2.2.1
  have hB := B.2.2.2.2.1
  have hC := C.2.2.2.2.1
  have t3 : ∀ (s : Bool) (d : Nat) (dd : Dm) (l : Option Value), s = nanS da db dc → dd = nanP da db dc → RegD S d dd → ix_E 115 74 [some (.ref 34), some (.ref a), some (.ref b), some (.ref c), some (.int (bI s)), l] [.ref d, .ref 35] h Q := by
    intro s d dd l hs hd D
    rw [← hd, ← hs] at q
    refine jcv (pc' := 77) 85 [_] [] (I.ob (r := 35) R.1) rfl rfl rfl rfl rfl rfl rfl rfl ?_
    refine v_copyR I R D fun _ I R => jk ?_
    refine jx (pc' := 78) (L' := [_, _, _, _, _, _]) (st' := [_]) 1 rfl ?_
    refine jgf (pc' := 81) (I.ob (r := 34) AR) rfl rfl rfl rfl rfl ?_
    refine jx (pc' := 82) (L' := [_, _, _, _, _, _]) (st' := [.int (nI 3), _]) 1 rfl ?_
    refine jpA (pc' := 85) (r := 35) I R.1 rfl rfl rfl (Nat.le_of_ble_eq_true rfl) (by intro z; cases z) rfl rfl rfl fun _ I X_ => ?_
    refine jx (pc' := 87) (L' := [_, _, _, _, _, _]) (st' := [_]) 1 rfl ?_
    cases s with
    | true =>
      refine jin (pc' := 90) 94 rfl rfl rfl rfl (rfl) ?_
      refine jx (pc' := 95) (L' := [_, _, _, _, _, _]) (st' := [.int (nI 1)]) 2 rfl ?_
      refine jri rfl rfl ?_
      exact q _ _ I L.up35.up36.up35 ((((ag_0 _ S).up (by decide)).up (by decide)).up (by decide)) ⟨rfl, rfl, R.2.2.1, (by decide : 3 < 4), R.2.2.2.2⟩
    | false =>
      refine jit (pc' := 94) rfl rfl rfl (rfl) ?_
      refine jx (pc' := 95) (L' := [_, _, _, _, _, _]) (st' := [.int (nI 0)]) 1 rfl ?_
      refine jri rfl rfl ?_
      exact q _ _ I L.up35.up36.up35 ((((ag_0 _ S).up (by decide)).up (by decide)).up (by decide)) ⟨rfl, rfl, R.2.2.1, (by decide : 3 < 4), R.2.2.2.2⟩
  have t2 : ∀ (s : Bool) (k : Nat), s = nanS da db dc → k = (if nanS da db dc then 2 else 3) → ix_E 115 41 [some (.ref 34), some (.ref a), some (.ref b), some (.ref c), some (.int (bI s)), none] [.int (nI k)] h Q := by
    intro s k hs hk
    have hk4 : k < 4 := by rw [hk]; split <;> decide
    refine jx (pc' := 44) (L' := [_, _, _, _, _, _]) (st' := [_]) 2 rfl ?_
    refine jgf (pc' := 47) (I.ob (r := 34) AR) rfl rfl rfl rfl rfl ?_
    refine jx (pc' := 48) (L' := [_, _, _, _, _, _]) (st' := [_, _]) 1 rfl ?_
    refine jgf (pc' := 51) (I.ob (r := a) A.2.1) rfl rfl rfl rfl rfl ?_
    by_cases e1 : da.2.1 = k
    · skip
      refine jx (pc' := 53) (L' := [_, _, _, _, _, _]) (st' := [_, _, _]) 1 rfl ?_
      refine jcn (pc' := 56) 60 rfl rfl rfl rfl (by rw [cc_ne (by omega) (by omega)]; exact decide_eq_false (by omega)) ?_
      refine jx (pc' := 74) (L' := [_, _, _, _, _, _]) (st' := [_, _]) 2 rfl ?_
      exact t3 s a da _ hs (by unfold nanP; rw [if_pos (e1.trans hk)]) A
    · skip
      refine jx (pc' := 53) (L' := [_, _, _, _, _, _]) (st' := [_, _, _]) 1 rfl ?_
      refine jct (pc' := 60) rfl rfl rfl (by rw [cc_ne (by omega) (by omega)]; exact decide_eq_true (by omega)) ?_
      refine jx (pc' := 61) (L' := [_, _, _, _, _, _]) (st' := [_, _]) 1 rfl ?_
      refine jgf (pc' := 64) (I.ob (r := b) B.2.1) rfl rfl rfl rfl rfl ?_
      by_cases e2 : db.2.1 = k
      · skip
        refine jx (pc' := 66) (L' := [_, _, _, _, _, _]) (st' := [_, _, _]) 1 rfl ?_
        refine jcn (pc' := 69) 73 rfl rfl rfl rfl (by rw [cc_ne (by omega) (by omega)]; exact decide_eq_false (by omega)) ?_
        refine jx (pc' := 74) (L' := [_, _, _, _, _, _]) (st' := [_, _]) 2 rfl ?_
        exact t3 s b db _ hs (by unfold nanP; rw [if_neg (fun z => e1 (z.trans hk.symm)), if_pos (e2.trans hk)]) B
      · skip
        refine jx (pc' := 66) (L' := [_, _, _, _, _, _]) (st' := [_, _, _]) 1 rfl ?_
        refine jct (pc' := 73) rfl rfl rfl (by rw [cc_ne (by omega) (by omega)]; exact decide_eq_true (by omega)) ?_
        refine jx (pc' := 74) (L' := [_, _, _, _, _, _]) (st' := [_, _]) 1 rfl ?_
        exact t3 s c dc _ hs (by unfold nanP; rw [if_neg (fun z => e1 (z.trans hk.symm)), if_neg (fun z => e2 (z.trans hk.symm))]) C
  have t1 : ∀ s : Bool, s = nanS da db dc → ix_E 115 29 [some (.ref 34), some (.ref a), some (.ref b), some (.ref c), none, none] [.int (bI s)] h Q := by
    intro s hs
    refine jx (pc' := 33) (L' := [_, _, _, _, _, _]) (st' := [_]) 2 rfl ?_
    cases s with
    | true =>
      refine jin (pc' := 36) 40 rfl rfl rfl rfl (rfl) ?_
      refine jx (pc' := 41) (L' := [_, _, _, _, _, _]) (st' := [.int (nI 2)]) 2 rfl ?_
      exact t2 true 2 hs (by rw [← hs]; rfl)
    | false =>
      refine jit (pc' := 40) rfl rfl rfl (rfl) ?_
      refine jx (pc' := 41) (L' := [_, _, _, _, _, _]) (st' := [.int (nI 3)]) 1 rfl ?_
      exact t2 false 3 hs (by rw [← hs]; rfl)
  refine jx (pc' := 1) (L' := [_, _, _, _, _, _]) (st' := [_]) 1 rfl ?_
  refine jgf (pc' := 4) (I.ob (r := a) A.2.1) rfl rfl rfl rfl rfl ?_
  by_cases e1 : da.2.1 = 2
  · skip
    refine jx (pc' := 5) (L' := [_, _, _, _, _, _]) (st' := [.int (nI 2), _]) 1 rfl ?_
    refine jct (pc' := 24) rfl rfl rfl (by rw [cc_eq (by omega) (by omega)]; exact decide_eq_true (by omega)) ?_
    refine jx (pc' := 29) (L' := [_, _, _, _, _, _]) (st' := [.int (nI 1)]) 2 rfl ?_
    exact t1 true (by unfold nanS; simp [e1])
  · skip
    refine jx (pc' := 5) (L' := [_, _, _, _, _, _]) (st' := [.int (nI 2), _]) 1 rfl ?_
    refine jcn (pc' := 8) 24 rfl rfl rfl rfl (by rw [cc_eq (by omega) (by omega)]; exact decide_eq_false (by omega)) ?_
    refine jx (pc' := 9) (L' := [_, _, _, _, _, _]) (st' := [_]) 1 rfl ?_
    refine jgf (pc' := 12) (I.ob (r := b) B.2.1) rfl rfl rfl rfl rfl ?_
    by_cases e2 : db.2.1 = 2
    · skip
      refine jx (pc' := 13) (L' := [_, _, _, _, _, _]) (st' := [.int (nI 2), _]) 1 rfl ?_
      refine jct (pc' := 24) rfl rfl rfl (by rw [cc_eq (by omega) (by omega)]; exact decide_eq_true (by omega)) ?_
      refine jx (pc' := 29) (L' := [_, _, _, _, _, _]) (st' := [.int (nI 1)]) 2 rfl ?_
      exact t1 true (by unfold nanS; simp [e2])
    · skip
      refine jx (pc' := 13) (L' := [_, _, _, _, _, _]) (st' := [.int (nI 2), _]) 1 rfl ?_
      refine jcn (pc' := 16) 24 rfl rfl rfl rfl (by rw [cc_eq (by omega) (by omega)]; exact decide_eq_false (by omega)) ?_
      refine jx (pc' := 17) (L' := [_, _, _, _, _, _]) (st' := [_]) 1 rfl ?_
      refine jgf (pc' := 20) (I.ob (r := c) C.2.1) rfl rfl rfl rfl rfl ?_
      by_cases e3 : dc.2.1 = 2
      · skip
        refine jx (pc' := 21) (L' := [_, _, _, _, _, _]) (st' := [.int (nI 2), _]) 1 rfl ?_
        refine jcn (pc' := 24) 28 rfl rfl rfl rfl (by rw [cc_ne (by omega) (by omega)]; exact decide_eq_false (by omega)) ?_
        refine jx (pc' := 29) (L' := [_, _, _, _, _, _]) (st' := [.int (nI 1)]) 2 rfl ?_
        exact t1 true (by unfold nanS; simp [e3])
      · skip
        refine jx (pc' := 21) (L' := [_, _, _, _, _, _]) (st' := [.int (nI 2), _]) 1 rfl ?_
        refine jct (pc' := 28) rfl rfl rfl (by rw [cc_ne (by omega) (by omega)]; exact decide_eq_true (by omega)) ?_
        refine jx (pc' := 29) (L' := [_, _, _, _, _, _]) (st' := [.int (nI 0)]) 1 rfl ?_
        exact t1 false (by unfold nanS; simp [e1, e2, e3])
end ART
