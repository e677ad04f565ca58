/-! ===== Rounding: growsInSize, cut ===== -/
def grw (dir d : Nat) (below odd neg : Bool) : Bool := if dir = 0 then decide (5 < d) || (decide (d = 5) && (below || odd)) else if dir = 2 then !neg else if dir = 3 then neg else if dir = 4 then decide (5 ≤ d) else false
section RND
variable {h : ix_H} {Q : ix_O → ix_H → Prop} {S : Nat → AC}
theorem c_grows {dir d : Nat} {below odd neg : Bool} (hd : dir < 5) (h10 : d < 10) (q : Q (.inl (some (.int (bI (grw dir d below odd neg))))) h) : ix_M 102 [.int (nI d), .int (bI below), .int (bI odd), .int (nI dir), .int (bI neg)] h Q := by
  have hc : dir = 0 ∨ dir = 1 ∨ dir = 2 ∨ dir = 3 ∨ dir = 4 := by omega
  rcases hc with rfl | rfl | rfl | rfl | rfl
  · have e : grw 0 d below odd neg = (decide (5 < d) || (decide (d = 5) && (below || odd))) := rfl
    rw [e] at q
    refine jx (pc' := 1) (L' := [_, _, _, _, _]) (st' := [_]) 1 rfl ?_
    refine jx (pc' := 36) (L' := [_, _, _, _, _]) (st' := []) 1 rfl ?_
    by_cases h1 : 5 < d
    · skip
      refine jx (pc' := 38) (L' := [_, _, _, _, _]) (st' := [.int (nI 5), _]) 2 rfl ?_
      refine jct (pc' := 54) rfl rfl rfl (by rw [cc_gt (by omega) (by omega)]; exact decide_eq_true (by omega)) ?_
      refine jx (pc' := 59) (L' := [_, _, _, _, _]) (st' := [.int (nI 1)]) 2 rfl ?_
      refine ix_qr _ rfl rfl rfl ?_
      rw [decide_eq_true h1] at q
      exact q
    · skip
      refine jx (pc' := 38) (L' := [_, _, _, _, _]) (st' := [.int (nI 5), _]) 2 rfl ?_
      refine jcn (pc' := 41) 54 rfl rfl rfl rfl (by rw [cc_gt (by omega) (by omega)]; exact decide_eq_false (by omega)) ?_
      rw [decide_eq_false h1] at q
      by_cases h2 : d = 5
      · skip
        refine jx (pc' := 43) (L' := [_, _, _, _, _]) (st' := [.int (nI 5), _]) 2 rfl ?_
        refine jcn (pc' := 46) 58 rfl rfl rfl rfl (by rw [cc_ne (by omega) (by omega)]; exact decide_eq_false (by omega)) ?_
        rw [decide_eq_true h2] at q
        cases below with
        | true =>
          refine jx (pc' := 47) (L' := [_, _, _, _, _]) (st' := [_]) 1 rfl ?_
          refine jit (pc' := 54) rfl rfl rfl (rfl) ?_
          refine jx (pc' := 59) (L' := [_, _, _, _, _]) (st' := [.int (nI 1)]) 2 rfl ?_
          refine ix_qr _ rfl rfl rfl ?_
          exact q
        | false =>
          refine jx (pc' := 47) (L' := [_, _, _, _, _]) (st' := [_]) 1 rfl ?_
          refine jin (pc' := 50) 54 rfl rfl rfl rfl (rfl) ?_
          cases odd with
          | true =>
            refine jx (pc' := 51) (L' := [_, _, _, _, _]) (st' := [_]) 1 rfl ?_
            refine jin (pc' := 54) 58 rfl rfl rfl rfl (rfl) ?_
            refine jx (pc' := 59) (L' := [_, _, _, _, _]) (st' := [.int (nI 1)]) 2 rfl ?_
            refine ix_qr _ rfl rfl rfl ?_
            exact q
          | false =>
            refine jx (pc' := 51) (L' := [_, _, _, _, _]) (st' := [_]) 1 rfl ?_
            refine jit (pc' := 58) rfl rfl rfl (rfl) ?_
            refine jx (pc' := 59) (L' := [_, _, _, _, _]) (st' := [.int (nI 0)]) 1 rfl ?_
            refine ix_qr _ rfl rfl rfl ?_
            exact q
      · skip
        refine jx (pc' := 43) (L' := [_, _, _, _, _]) (st' := [.int (nI 5), _]) 2 rfl ?_
        refine jct (pc' := 58) rfl rfl rfl (by rw [cc_ne (by omega) (by omega)]; exact decide_eq_true (by omega)) ?_
        refine jx (pc' := 59) (L' := [_, _, _, _, _]) (st' := [.int (nI 0)]) 1 rfl ?_
        refine ix_qr _ rfl rfl rfl ?_
        rw [decide_eq_false h2] at q
        exact q
  · skip
    refine jx (pc' := 1) (L' := [_, _, _, _, _]) (st' := [_]) 1 rfl ?_
    refine jx (pc' := 85) (L' := [_, _, _, _, _]) (st' := []) 1 rfl ?_
    refine jx (pc' := 86) (L' := [_, _, _, _, _]) (st' := [.int (nI 0)]) 1 rfl ?_
    refine ix_qr _ rfl rfl rfl ?_
    exact q
  · skip
    refine jx (pc' := 1) (L' := [_, _, _, _, _]) (st' := [_]) 1 rfl ?_
    refine jx (pc' := 60) (L' := [_, _, _, _, _]) (st' := []) 1 rfl ?_
    cases neg with
    | true =>
      refine jx (pc' := 62) (L' := [_, _, _, _, _]) (st' := [_]) 1 rfl ?_
      refine jit (pc' := 69) rfl rfl rfl (rfl) ?_
      refine jx (pc' := 70) (L' := [_, _, _, _, _]) (st' := [.int (nI 0)]) 1 rfl ?_
      refine ix_qr _ rfl rfl rfl ?_
      exact q
    | false =>
      refine jx (pc' := 62) (L' := [_, _, _, _, _]) (st' := [_]) 1 rfl ?_
      refine jin (pc' := 65) 69 rfl rfl rfl rfl (rfl) ?_
      refine jx (pc' := 70) (L' := [_, _, _, _, _]) (st' := [.int (nI 1)]) 2 rfl ?_
      refine ix_qr _ rfl rfl rfl ?_
      exact q
  · skip
    refine jx (pc' := 1) (L' := [_, _, _, _, _]) (st' := [_]) 1 rfl ?_
    refine jx (pc' := 71) (L' := [_, _, _, _, _]) (st' := []) 1 rfl ?_
    refine jx (pc' := 73) (L' := [_, _, _, _, _]) (st' := [_]) 1 rfl ?_
    refine jrb rfl rfl ?_
    exact q
  · have e : grw 4 d below odd neg = decide (5 ≤ d) := rfl
    rw [e] at q
    refine jx (pc' := 1) (L' := [_, _, _, _, _]) (st' := [_]) 1 rfl ?_
    refine jx (pc' := 74) (L' := [_, _, _, _, _]) (st' := []) 1 rfl ?_
    by_cases h1 : 5 ≤ d
    · skip
      refine jx (pc' := 76) (L' := [_, _, _, _, _]) (st' := [.int (nI 5), _]) 2 rfl ?_
      refine jcn (pc' := 79) 83 rfl rfl rfl rfl (by rw [cc_lt (by omega) (by omega)]; exact decide_eq_false (by omega)) ?_
      refine jx (pc' := 84) (L' := [_, _, _, _, _]) (st' := [.int (nI 1)]) 2 rfl ?_
      refine ix_qr _ rfl rfl rfl ?_
      rw [decide_eq_true h1] at q
      exact q
    · skip
      refine jx (pc' := 76) (L' := [_, _, _, _, _]) (st' := [.int (nI 5), _]) 2 rfl ?_
      refine jct (pc' := 83) rfl rfl rfl (by rw [cc_lt (by omega) (by omega)]; exact decide_eq_true (by omega)) ?_
      refine jx (pc' := 84) (L' := [_, _, _, _, _]) (st' := [.int (nI 0)]) 1 rfl ?_
      refine ix_qr _ rfl rfl rfl ?_
      rw [decide_eq_false h1] at q
      exact q
/-- what cut leaves, and whether it changes the value -/
def cutI (x : Nat) (p : Int) (more : Bool) : Bool := decide (dAt x (p - 1) ≠ 0) || (more || decide (x % 10 ^ (p - 1).toNat ≠ 0))
def cutV (x : Nat) (p : Int) (more : Bool) (dir : Nat) (neg : Bool) : Nat := x / 10 ^ p.toNat + (cutI x p more && grw dir (dAt x (p - 1)) (more || decide (x % 10 ^ (p - 1).toNat ≠ 0)) (decide (x / 10 ^ p.toNat % 2 = 1)) neg).toNat
theorem v_cut {a x dir : Nat} {p : Int} {more neg : Bool} (I : Inv h S) (A : S a = aN x) (hp : -2147483648 < p ∧ p < 2147483648) (hd : dir < 5) (hx : x + 1 < 10 ^ 144) (q : ∀ h', Inv h' (va_up S a (aN (cutV x p more dir neg))) → Q (.inl (some (.int (bI (cutI x p more))))) h') : ix_M 101 [.ref a, .int (zI p), .int (bI more), .int (nI dir), .int (bI neg)] h Q := by
  have hp1 : zr (p - 1) := ⟨by omega, by omega⟩
  have hp0 : zr p := ⟨by omega, by omega⟩
  have hle : x / 10 ^ p.toNat ≤ x := Nat.div_le_self _ _
  have hd10 := dAt_lt x (p - 1)
  have tail : ∀ below : Bool, below = (more || decide (x % 10 ^ (p - 1).toNat ≠ 0)) → ix_E 101 28 [some (.ref a), some (.int (zI p)), some (.int (bI more)), some (.int (nI dir)), some (.int (bI neg)), some (.int (nI (dAt x (p - 1)))), none, none] [.int (bI below)] h Q := by
    intro below hb
    refine jx (pc' := 32) (L' := [_, _, _, _, _, _, _, _]) (st' := [_, _]) 3 rfl ?_
    refine jcv (pc' := 35) 64 [_] [] (I.no (r := a) A) rfl rfl rfl rfl rfl rfl rfl rfl ?_
    refine v_shiftDown I A hp0 fun h1 I => jk ?_
    have A : va_up S a (aN (x / 10 ^ p.toNat)) a = aN (x / 10 ^ p.toNat) := va_up_self _ _ _
    have t2 : ∀ inx : Bool, inx = cutI x p more → ix_E 101 50 [some (.ref a), some (.int (zI p)), some (.int (bI more)), some (.int (nI dir)), some (.int (bI neg)), some (.int (nI (dAt x (p - 1)))), some (.int (bI below)), none] [.int (bI inx)] h1 Q := by
      intro inx hi
      refine jx (pc' := 54) (L' := [_, _, _, _, _, _, _, _]) (st' := [_]) 2 rfl ?_
      have hg : cutV x p more dir neg = x / 10 ^ p.toNat + (inx && grw dir (dAt x (p - 1)) below (decide (x / 10 ^ p.toNat % 2 = 1)) neg).toNat := by rw [hi, hb]; rfl
      cases inx with
      | false =>
        refine jit (pc' := 80) rfl rfl rfl (rfl) ?_
        refine jx (pc' := 82) (L' := [_, _, _, _, _, _, _, _]) (st' := [_]) 1 rfl ?_
        refine jrb rfl rfl ?_
        rw [hi]
        refine q _ ?_
        rw [hg]
        exact I
      | true =>
        refine jin (pc' := 57) 80 rfl rfl rfl rfl (rfl) ?_
        refine jx (pc' := 62) (L' := [_, _, _, _, _, _, _, _]) (st' := [_, _, _]) 3 rfl ?_
        refine jcv (pc' := 65) 65 [] [_, _] (I.no (r := a) A) rfl rfl rfl rfl rfl rfl rfl rfl ?_
        refine v_isOdd I A (jk ?_)
        refine jx (pc' := 68) (L' := [_, _, _, _, _, _, _, _]) (st' := [_, _, _, _, _]) 2 rfl ?_
        refine jcs (pc' := 71) 102 [_, _, _, _, _] [] rfl rfl rfl rfl rfl rfl rfl rfl ?_
        refine c_grows hd hd10 (jk ?_)
        simp only [Bool.true_and] at hg
        cases hgr : grw dir (dAt x (p - 1)) below (decide (x / 10 ^ p.toNat % 2 = 1)) neg with
        | false =>
          refine jit (pc' := 80) rfl rfl rfl (rfl) ?_
          refine jx (pc' := 82) (L' := [_, _, _, _, _, _, _, _]) (st' := [_]) 1 rfl ?_
          refine jrb rfl rfl ?_
          rw [hi]
          refine q _ ?_
          rw [hg, hgr]
          exact I
        | true =>
          refine jin (pc' := 74) 80 rfl rfl rfl rfl (rfl) ?_
          refine jx (pc' := 77) (L' := [_, _, _, _, _, _, _, _]) (st' := [.long (lN 1), .long (lN 1), _]) 3 rfl ?_
          refine jcv (pc' := 80) 55 [.long (lN 1), .long (lN 1)] [] (I.no (r := a) A) rfl rfl rfl rfl rfl rfl rfl rfl ?_
          refine v_timesPlus (m := 1) (p := 1) I A (by decide) (by decide) (by omega) fun _ I => jk ?_
          refine jx (pc' := 82) (L' := [_, _, _, _, _, _, _, _]) (st' := [_]) 1 rfl ?_
          refine jrb rfl rfl ?_
          rw [hi]
          refine q _ ?_
          rw [hg, hgr]
          rw [va_up_up, Nat.mul_one] at I
          exact I
    refine jx (pc' := 37) (L' := [_, _, _, _, _, _, _, _]) (st' := [_]) 1 rfl ?_
    by_cases h0 : dAt x (p - 1) = 0
    · skip
      refine jin (pc' := 40) 45 rfl rfl rfl rfl (by rw [cz_ne (by omega)]; exact decide_eq_false (by omega)) ?_
      cases below with
      | true =>
        refine jx (pc' := 42) (L' := [_, _, _, _, _, _, _, _]) (st' := [_]) 1 rfl ?_
        refine jin (pc' := 45) 49 rfl rfl rfl rfl (rfl) ?_
        refine jx (pc' := 50) (L' := [_, _, _, _, _, _, _, _]) (st' := [.int (nI 1)]) 2 rfl ?_
        exact t2 true (by unfold cutI; rw [← hb]; simp)
      | false =>
        refine jx (pc' := 42) (L' := [_, _, _, _, _, _, _, _]) (st' := [_]) 1 rfl ?_
        refine jit (pc' := 49) rfl rfl rfl (rfl) ?_
        refine jx (pc' := 50) (L' := [_, _, _, _, _, _, _, _]) (st' := [.int (nI 0)]) 1 rfl ?_
        exact t2 false (by unfold cutI; rw [← hb]; simp [h0])
    · skip
      refine jit (pc' := 45) rfl rfl rfl (by rw [cz_ne (by omega)]; exact decide_eq_true (by omega)) ?_
      refine jx (pc' := 50) (L' := [_, _, _, _, _, _, _, _]) (st' := [.int (nI 1)]) 2 rfl ?_
      exact t2 true (by unfold cutI; simp [h0])
  refine jx (pc' := 4) (L' := [_, _, _, _, _, _, _, _]) (st' := [_, _]) 4 rfl ?_
  try simp (disch := omega) only [kz, kzl, kzb, kzs, zI_add, zI_sub, zI_neg, zI_mul, zL_i, zI_l, zL_add, zL_sub, zL_neg]
  refine jcv (pc' := 7) 62 [_] [] (I.no (r := a) A) rfl rfl rfl rfl rfl rfl rfl rfl ?_
  refine v_digitAt I A hp1 (jk ?_)
  refine jx (pc' := 10) (L' := [_, _, _, _, _, _, _, _]) (st' := [_]) 2 rfl ?_
  cases more with
  | true =>
    refine jit (pc' := 23) rfl rfl rfl (rfl) ?_
    refine jx (pc' := 28) (L' := [_, _, _, _, _, _, _, _]) (st' := [.int (zI 1)]) 2 rfl ?_
    exact tail true rfl
  | false =>
    refine jin (pc' := 13) 23 rfl rfl rfl rfl (rfl) ?_
    refine jx (pc' := 17) (L' := [_, _, _, _, _, _, _, _]) (st' := [_, _]) 4 rfl ?_
    try simp (disch := omega) only [kz, kzl, kzb, kzs, zI_add, zI_sub, zI_neg, zI_mul, zL_i, zI_l, zL_add, zL_sub, zL_neg]
    refine jcv (pc' := 20) 63 [_] [] (I.no (r := a) A) rfl rfl rfl rfl rfl rfl rfl rfl ?_
    refine v_hasDigitsBelow I A hp1 (jk ?_)
    cases hb : decide (x % 10 ^ (p - 1).toNat ≠ 0) with
    | true =>
      refine jin (pc' := 23) 27 rfl rfl rfl rfl (rfl) ?_
      refine jx (pc' := 28) (L' := [_, _, _, _, _, _, _, _]) (st' := [.int (zI 1)]) 2 rfl ?_
      exact tail true (by rw [hb]; rfl)
    | false =>
      refine jit (pc' := 27) rfl rfl rfl (rfl) ?_
      refine jx (pc' := 28) (L' := [_, _, _, _, _, _, _, _]) (st' := [.int (zI 0)]) 1 rfl ?_
      exact tail false (by rw [hb]; rfl)
end RND
