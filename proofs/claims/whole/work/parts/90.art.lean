/-! ===== Arithmetic: toWhole ===== -/
def twW (dir : Nat) (A : Dm) : Nat := cutV A.2.2.2.2 (-A.2.2.2.1) false dir A.2.2.1 * 10 ^ A.2.2.2.1.toNat
/-- the whole number (or none) and the signals -/
noncomputable def twR (dir : Nat) (exa : Bool) (A : Dm) : Int × Nat :=
  if ¬ A.2.1 = 0 ∨ (¬ A.2.2.2.2 = 0 ∧ 19 < (dgs A.2.2.2.2 : Int) + A.2.2.2.1) then (-9223372036854775808, 1) else
  if 9223372036854775808 ≤ twW dir A ∧ ¬ (A.2.2.1 = true ∧ twW dir A = 9223372036854775808) then (-9223372036854775808, 1) else
  ((if A.2.2.1 then -(twW dir A : Int) else (twW dir A : Int)), if exa = true ∧ cutI A.2.2.2.2 (-A.2.2.2.1) false = true then 16 else 0)
theorem cutV_0 (p : Int) (dir : Nat) (ng : Bool) : cutV 0 p false dir ng = 0 := by
  have c : cutI 0 p false = false := by
    unfold cutI dAt
    simp
  unfold cutV
  rw [c]
  simp
theorem twW_b {dir : Nat} {A : Dm} (h : A.2.2.2.2 = 0 ∨ (dgs A.2.2.2.2 : Int) + A.2.2.2.1 ≤ 19) : twW dir A < 18446744073709551616 := by
  unfold twW
  rcases h with h | h
  · rw [h, cutV_0, Nat.zero_mul]; decide
  · by_cases h0 : 0 ≤ A.2.2.2.1
    · rw [(cut0 (by omega)).2]
      have := dgs_sh A.2.2.2.2 A.2.2.2.1.toNat
      have := pl (a := dgs A.2.2.2.2 + A.2.2.2.1.toNat) (b := 19) (by omega)
      omega
    · rw [show A.2.2.2.1.toNat = 0 by omega, Nat.pow_zero, Nat.mul_one]
      have h1 := cutV_le A.2.2.2.2 (-A.2.2.2.1) false dir A.2.2.1
      have h2 : A.2.2.2.2 / 10 ^ (-A.2.2.2.1).toNat < 10 ^ 19 := by
        refine (Nat.div_lt_iff_lt_mul (pp0 _)).mpr ?_
        rw [← Nat.pow_add]
        exact Nat.lt_of_lt_of_le (dgs_l _) (pl (by omega))
      omega
theorem kLmin : (-9223372036854775808 : Int64) = zL (-9223372036854775808) := by decide
section ART
variable {h : ix_H} {Q : ix_O → ix_H → Prop} {S : Nat → AC} {a dir f : Nat} {da dr : Dm} {exa : Bool}
theorem v_toWhole (I : Inv h S) (L : Lay S) (A : RegD S a da) (hd : dir < 5) (q : ∀ h' S', Inv h' S' → Lay S' → ag [34, 50] S S' → S' 34 = aC (arC (zL (twR dir exa da).1)) → Q (.inl (some (.int (nI (twR dir exa da).2)))) h') : ix_M 142 [.ref 34, .ref a, .int (nI dir), .int (bI exa)] h Q := by
  obtain ⟨wn, AR⟩ := L.1
  obtain ⟨w50, W50⟩ := L.2.2.2.2.2.2.2.2.1
  have vA := A.2.2.2
  have bA := vA.b
  have dA := vA.d
  unfold twR at q
  refine jx (pc' := 4) (L' := [_, _, _, _, _, _, _, _]) (st' := [_, _]) 2 rfl ?_
  refine jpA (pc' := 7) (r := 34) I AR rfl rfl rfl (Nat.le_of_ble_eq_true rfl) (by intro z; cases z) rfl rfl rfl fun _ I AR => ?_
  rename_i k
  change Inv k (va_up S 34 (aC (arC (zL (-9223372036854775808))))) at I
  have L1 := L.up34 (wn := zL (-9223372036854775808))
  have A1 : RegD (va_up S 34 (aC (arC (zL (-9223372036854775808))))) a da := A.up (by decide)
  have AR1 : va_up S 34 (aC (arC (zL (-9223372036854775808)))) 34 = aC (arC (zL (-9223372036854775808))) := rfl
  have g1 : ag [34, 50] S (va_up S 34 (aC (arC (zL (-9223372036854775808))))) := (ag_0 _ S).up (by decide)
  have A2 := A1.2.1
  have A3 := A1.2.2.1
  have W1 : va_up S 34 (aC (arC (zL (-9223372036854775808)))) 50 = aN w50 := W50
  clear AR
  generalize va_up S 34 (aC (arC (zL (-9223372036854775808)))) = T at *
  have t38 : (¬ da.2.1 = 0 ∨ (¬ da.2.2.2.2 = 0 ∧ 19 < (dgs da.2.2.2.2 : Int) + da.2.2.2.1)) → ix_E 142 38 [some (.ref 34), some (.ref a), some (.int (nI dir)), some (.int (bI exa)), none, none, none, none] [] k Q := by
    intro hc
    simp only [if_pos hc] at q
    refine jx (pc' := 39) (L' := [_, _, _, _, _, _, _, _]) (st' := [.int (zI 1)]) 1 rfl ?_
    refine jri rfl rfl ?_
    exact q _ _ I L1 g1 AR1
  have t40 : ¬ (¬ da.2.1 = 0 ∨ (¬ da.2.2.2.2 = 0 ∧ 19 < (dgs da.2.2.2.2 : Int) + da.2.2.2.1)) → ix_E 142 40 [some (.ref 34), some (.ref a), some (.int (nI dir)), some (.int (bI exa)), none, none, none, none] [] k Q := by
    intro hc
    simp only [if_neg hc] at q
    have hWb : twW dir da < 18446744073709551616 := twW_b (by omega)
    have hWd : twW dir da = cutV da.2.2.2.2 (-da.2.2.2.1) false dir da.2.2.1 * 10 ^ da.2.2.2.1.toNat := rfl
    have hb144 : (18446744073709551616 : Nat) < 10 ^ 144 := by decide
    refine jx (pc' := 41) (L' := [_, _, _, _, _, _, _, _]) (st' := [_]) 1 rfl ?_
    refine jgf (pc' := 44) (I.ob (r := 34) AR1) rfl rfl rfl rfl rfl ?_
    refine jx (pc' := 45) (L' := [_, _, _, _, _, _, _, _]) (st' := [_, _]) 1 rfl ?_
    refine jgf (pc' := 48) (I.ob (r := a) A2) rfl rfl rfl rfl rfl ?_
    refine jcv (pc' := 51) 48 [_] [] (I.no (r := 50) W1) rfl rfl rfl rfl rfl rfl rfl rfl ?_
    refine v_copy (a := 50) I W1 A3 fun _ I => jk ?_
    have A4 : ∀ x : AC, RegD (va_up T 50 x) a da := fun x => A1.up (by decide)
    have A5 : ∀ x y : AC, RegD (va_up (va_up T 50 x) 50 y) a da := fun x y => (A4 x).up (by decide)
    have A6 : ∀ x y z : AC, RegD (va_up (va_up (va_up T 50 x) 50 y) 50 z) a da := fun x y z => (A5 x y).up (by decide)
    refine jx (pc' := 52) (L' := [_, _, _, _, _, _, _, _]) (st' := [_]) 1 rfl ?_
    refine jgf (pc' := 55) (I.ob (r := 34) AR1) rfl rfl rfl rfl rfl ?_
    refine jx (pc' := 56) (L' := [_, _, _, _, _, _, _, _]) (st' := [_, _]) 1 rfl ?_
    refine jgf (pc' := 59) (I.ob (r := a) (A4 _).2.1) rfl rfl rfl rfl rfl ?_
    refine jx (pc' := 63) (L' := [_, _, _, _, _, _, _, _]) (st' := [_, _, .int (zI 0), _, _]) 4 rfl ?_
    try simp (disch := omega) only [kz, kzl0, kzl1, kzb, kzs, zI_add, zI_sub, zI_neg, zI_mul, zL_i, zI_l, zL_add, zL_sub, zL_neg]
    refine jgf (pc' := 66) (I.ob (r := a) (A4 _).2.1) rfl rfl rfl rfl rfl ?_
    refine jcs (pc' := 69) 101 [_, _, .int (zI 0), _, _] [] rfl rfl rfl rfl rfl rfl rfl rfl ?_
    refine v_cut (a := 50) (p := -da.2.2.2.1) (more := false) I rfl ⟨by omega, by omega⟩ hd (b34 vA.c) fun _ I => jk ?_
    refine jx (pc' := 72) (L' := [_, _, _, _, _, _, _, _]) (st' := [_]) 2 rfl ?_
    refine jgf (pc' := 75) (I.ob (r := 34) AR1) rfl rfl rfl rfl rfl ?_
    refine jx (pc' := 76) (L' := [_, _, _, _, _, _, _, _]) (st' := [_, _]) 1 rfl ?_
    refine jgf (pc' := 79) (I.ob (r := a) (A5 _ _).2.1) rfl rfl rfl rfl rfl ?_
    refine jcv (pc' := 82) 56 [_] [] (I.no (r := 50) rfl) rfl rfl rfl rfl rfl rfl rfl rfl ?_
    refine v_shiftUp (a := 50) I rfl ⟨by omega, by omega⟩ (by rw [← hWd]; omega) fun _ I => jk ?_
    rw [← hWd, va_up_up, va_up_up] at I
    refine jx (pc' := 83) (L' := [_, _, _, _, _, _, _, _]) (st' := [_]) 1 rfl ?_
    refine jgf (pc' := 86) (I.ob (r := 34) AR1) rfl rfl rfl rfl rfl ?_
    refine jcv (pc' := 89) 49 [] [] (I.no (r := 50) rfl) rfl rfl rfl rfl rfl rfl rfl rfl ?_
    refine v_giveWord (a := 50) I rfl fun _ I => jk ?_
    refine jx (pc' := 92) (L' := [_, _, _, _, _, _, _, _]) (st' := [_]) 2 rfl ?_
    refine jgf (pc' := 95) (I.ob (r := 34) AR1) rfl rfl rfl rfl rfl ?_
    refine jcv (pc' := 98) 49 [] [] (I.no (r := 50) rfl) rfl rfl rfl rfl rfl rfl rfl rfl ?_
    refine v_giveWord (a := 50) I rfl fun k2 I => jk ?_
    rw [va_up_up, va_up_up] at I
    generalize twW dir da = W at *
    generalize cutI da.2.2.2.2 (-da.2.2.2.1) false = inx at *
    have A7 : RegD (va_up T 50 (aN (W / 4294967296 / 4294967296))) a da := A4 _
    have L7 := L1.up50 (v := W / 4294967296 / 4294967296)
    have g7 := g1.up (r := 50) (x := aN (W / 4294967296 / 4294967296)) (by decide)
    have AR7 : va_up T 50 (aN (W / 4294967296 / 4294967296)) 34 = aC (arC (zL (-9223372036854775808))) := AR1
    generalize va_up T 50 (aN (W / 4294967296 / 4294967296)) = T7 at *
    refine jx (pc' := 110) (L' := [_, _, _, _, _, _, _, _]) (st' := [_]) 8 rfl ?_
    try simp (disch := omega) only [kL4294967295, kz, kzl0, kzl1, kzb, kzs, zI_add, zI_sub, zI_neg, zI_mul, zL_i, zI_l, zL_add, zL_sub, zL_neg]
    have hwd : wd (nI (W / 4294967296 % 4294967296)) = W / 4294967296 % 4294967296 := wd_n (Nat.mod_lt _ (by decide))
    rw [lN_msk, wd_n (Nat.mod_lt _ (by decide)), show (zL 32 &&& 63 : Int64) = 32 from by decide, mk64 _ _ (Nat.mod_lt _ (by decide)), zL_cg (b := (W : Int)) (by unfold wd at hwd; omega)]
    have t137 : ¬ (9223372036854775808 ≤ W ∧ ¬ (da.2.2.1 = true ∧ W = 9223372036854775808)) → ∀ w : Int, zL w = zL W → ∀ l5, ix_E 142 137 [some (.ref 34), some (.ref a), some (.int (nI dir)), some (.int (bI exa)), some (.int (bI inx)), l5, some (.long (zL w)), none] [] k2 Q := by
      intro hn w hw l5
      rw [hw]
      simp only [if_neg hn] at q
      have t153 : ∀ z : Int64, z = zL (if da.2.2.1 then -(W : Int) else (W : Int)) → ix_E 142 153 [some (.ref 34), some (.ref a), some (.int (nI dir)), some (.int (bI exa)), some (.int (bI inx)), l5, some (.long (zL W)), none] [.long z, .ref 34] k2 Q := by
        intro z hz
        subst hz
        refine jpA (pc' := 156) (r := 34) I AR7 rfl rfl rfl (Nat.le_of_ble_eq_true rfl) (by intro z; cases z) rfl rfl rfl fun _ I AR7 => ?_
        refine jx (pc' := 157) (L' := [_, _, _, _, _, _, _, _]) (st' := [_]) 1 rfl ?_
        cases exa with
        | true =>
          refine jin (pc' := 160) 170 rfl rfl rfl rfl (rfl) ?_
          refine jx (pc' := 162) (L' := [_, _, _, _, _, _, _, _]) (st' := [_]) 1 rfl ?_
          cases inx with
          | true =>
            refine jin (pc' := 165) 170 rfl rfl rfl rfl (rfl) ?_
            refine jx (pc' := 171) (L' := [_, _, _, _, _, _, _, _]) (st' := [.int (zI 16)]) 2 rfl ?_
            refine jri rfl rfl ?_
            exact q _ _ I L7.up34 (g7.up (by decide)) rfl
          | false =>
            refine jit (pc' := 170) rfl rfl rfl (rfl) ?_
            refine jx (pc' := 171) (L' := [_, _, _, _, _, _, _, _]) (st' := [.int (zI 0)]) 1 rfl ?_
            refine jri rfl rfl ?_
            exact q _ _ I L7.up34 (g7.up (by decide)) rfl
        | false =>
          refine jit (pc' := 170) rfl rfl rfl (rfl) ?_
          refine jx (pc' := 171) (L' := [_, _, _, _, _, _, _, _]) (st' := [.int (zI 0)]) 1 rfl ?_
          refine jri rfl rfl ?_
          exact q _ _ I L7.up34 (g7.up (by decide)) rfl
      refine jx (pc' := 139) (L' := [_, _, _, _, _, _, _, _]) (st' := [_, _]) 2 rfl ?_
      refine jgf (pc' := 142) (I.ob (r := a) A7.2.1) rfl rfl rfl rfl rfl ?_
      cases hng : da.2.2.1 with
      | true =>
        refine jin (pc' := 145) 151 rfl rfl rfl rfl (rfl) ?_
        refine jx (pc' := 153) (L' := [_, _, _, _, _, _, _, _]) (st' := [_, _]) 3 rfl ?_
        try simp (disch := omega) only [kz, kzl0, kzl1, kzb, kzs, zI_add, zI_sub, zI_neg, zI_mul, zL_i, zI_l, zL_add, zL_sub, zL_neg]
        exact t153 _ (by rw [hng]; rfl)
      | false =>
        refine jit (pc' := 151) rfl rfl rfl (rfl) ?_
        refine jx (pc' := 153) (L' := [_, _, _, _, _, _, _, _]) (st' := [_, _]) 1 rfl ?_
        exact t153 _ (by rw [hng]; rfl)
    have t135 : (9223372036854775808 ≤ W ∧ ¬ (da.2.2.1 = true ∧ W = 9223372036854775808)) → ∀ l5 l6, ix_E 142 135 [some (.ref 34), some (.ref a), some (.int (nI dir)), some (.int (bI exa)), some (.int (bI inx)), l5, l6, none] [] k2 Q := by
      intro hn l5 l6
      simp only [if_pos hn] at q
      refine jx (pc' := 136) (L' := [_, _, _, _, _, _, _, _]) (st' := [.int (zI 1)]) 1 rfl ?_
      refine jri rfl rfl ?_
      exact q _ _ I L7 g7 AR7
    by_cases hbig : 9223372036854775808 ≤ W
    · rw [zL_cg (a := (W : Int)) (b := (W : Int) - 18446744073709551616) (by omega)]
      refine jx (pc' := 116) (L' := [_, _, _, _, _, _, _, _]) (st' := [_]) 4 rfl ?_
      try simp (disch := omega) only [kz, kzl0, kzl1, kzb, kzs, zI_add, zI_sub, zI_neg, zI_mul, zL_i, zI_l, zL_add, zL_sub, zL_neg]
      refine jin (pc' := 119) 137 rfl rfl rfl rfl (by rw [zl_ge ⟨by omega, by omega⟩ ⟨by omega, by omega⟩]; exact decide_eq_false (by omega)) ?_
      refine jx (pc' := 120) (L' := [_, _, _, _, _, _, _, _]) (st' := [_]) 1 rfl ?_
      refine jgf (pc' := 123) (I.ob (r := a) A7.2.1) rfl rfl rfl rfl rfl ?_
      cases hng : da.2.2.1 with
      | true =>
        refine jin (pc' := 126) 135 rfl rfl rfl rfl (rfl) ?_
        refine jx (pc' := 132) (L' := [_, _, _, _, _, _, _, _]) (st' := [_]) 3 rfl ?_
        try simp (disch := omega) only [kz, kzl0, kzl1, kzb, kzs, zI_add, zI_sub, zI_neg, zI_mul, zL_i, zI_l, zL_add, zL_sub, zL_neg]
        rw [kLmin]
        by_cases he : W = 9223372036854775808
        · skip
          refine jit (pc' := 137) rfl rfl rfl (by rw [zl_eq ⟨by omega, by omega⟩ ⟨by omega, by omega⟩]; exact decide_eq_true (by omega)) ?_
          exact t137 (fun z => z.2 ⟨hng, he⟩) _ (zL_cg (by omega)) _
        · skip
          refine jin (pc' := 135) 137 rfl rfl rfl rfl (by rw [zl_eq ⟨by omega, by omega⟩ ⟨by omega, by omega⟩]; exact decide_eq_false (by omega)) ?_
          exact t135 ⟨hbig, fun z => he z.2⟩ _ _
      | false =>
        refine jit (pc' := 135) rfl rfl rfl (rfl) ?_
        exact t135 ⟨hbig, fun z => by rw [hng] at z; exact absurd z.1 (by decide)⟩ _ _
    · skip
      refine jx (pc' := 116) (L' := [_, _, _, _, _, _, _, _]) (st' := [_]) 4 rfl ?_
      try simp (disch := omega) only [kz, kzl0, kzl1, kzb, kzs, zI_add, zI_sub, zI_neg, zI_mul, zL_i, zI_l, zL_add, zL_sub, zL_neg]
      refine jit (pc' := 137) rfl rfl rfl (by rw [zl_ge ⟨by omega, by omega⟩ ⟨by omega, by omega⟩]; exact decide_eq_true (by omega)) ?_
      exact t137 (fun z => hbig z.1) _ rfl _
  refine jx (pc' := 8) (L' := [_, _, _, _, _, _, _, _]) (st' := [_]) 1 rfl ?_
  refine jcv (pc' := 11) 82 [] [] (I.ob (r := a) A2) rfl rfl rfl rfl rfl rfl rfl rfl ?_
  refine v_isFinite I A2 vA.2.1 (jk ?_)
  by_cases e1 : da.2.1 = 0
  · skip
    refine jin (pc' := 14) 38 rfl rfl rfl rfl (by rw [bz_eq]; simp [e1]) ?_
    refine jx (pc' := 15) (L' := [_, _, _, _, _, _, _, _]) (st' := [_]) 1 rfl ?_
    refine jcv (pc' := 18) 80 [] [] (I.ob (r := a) A2) rfl rfl rfl rfl rfl rfl rfl rfl ?_
    refine v_isZero I A2 A3 vA.2.1 (jk ?_)
    by_cases e2 : da.2.2.2.2 = 0
    · skip
      refine jit (pc' := 40) rfl rfl rfl (by rw [bz_ne]; simp [e1, e2]) ?_
      exact t40 (fun z => z.elim (fun w => w e1) (fun w => w.1 e2))
    · skip
      refine jin (pc' := 21) 40 rfl rfl rfl rfl (by rw [bz_ne]; simp [e2]) ?_
      refine jx (pc' := 22) (L' := [_, _, _, _, _, _, _, _]) (st' := [_]) 1 rfl ?_
      refine jgf (pc' := 25) (I.ob (r := a) A2) rfl rfl rfl rfl rfl ?_
      refine jcv (pc' := 28) 52 [] [] (I.no (r := (a+1)) A3) rfl rfl rfl rfl rfl rfl rfl rfl ?_
      refine v_digits I A3 fun _ => jk ?_
      rw [nz (dgs _)]
      refine jx (pc' := 29) (L' := [_, _, _, _, _, _, _, _]) (st' := [_, _]) 1 rfl ?_
      refine jgf (pc' := 32) (I.ob (r := a) A2) rfl rfl rfl rfl rfl ?_
      refine jx (pc' := 35) (L' := [_, _, _, _, _, _, _, _]) (st' := [.int (zI 19), _]) 2 rfl ?_
      try simp (disch := omega) only [kz, kzl0, kzl1, kzb, kzs, zI_add, zI_sub, zI_neg, zI_mul, zL_i, zI_l, zL_add, zL_sub, zL_neg]
      by_cases e3 : 19 < (dgs da.2.2.2.2 : Int) + da.2.2.2.1
      · skip
        refine jcn (pc' := 38) 40 rfl rfl rfl rfl (by rw [zc_le ⟨by omega, by omega⟩ ⟨by omega, by omega⟩]; exact decide_eq_false (by omega)) ?_
        exact t38 (Or.inr ⟨e2, e3⟩)
      · skip
        refine jct (pc' := 40) rfl rfl rfl (by rw [zc_le ⟨by omega, by omega⟩ ⟨by omega, by omega⟩]; exact decide_eq_true (by omega)) ?_
        exact t40 (fun z => z.elim (fun w => w e1) (fun w => e3 w.2))
  · skip
    refine jit (pc' := 38) rfl rfl rfl (by rw [bz_eq]; simp [e1]) ?_
    exact t38 (Or.inl e1)
end ART
