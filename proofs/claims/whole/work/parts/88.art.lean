/-! ===== Arithmetic: ofOne ===== -/
section ART
variable {h : ix_H} {Q : ix_O → ix_H → Prop} {S : Nat → AC} {a b c what cx cy dir f p M : Nat} {da db dc dr : Dm} {m nx ny mo nB : Bool} {ex wx ey wy P : Int}
theorem v_ofOne (I0 : Inv h S) (L0 : Lay S) (R0 : ResD S dr) (A0 : RegD S a da) (hd : dir < 5) (hw : what < 12) (q0 : ∀ h' S', Inv h' S' → Lay S' → ag arl S S' → ResD S' (o1R what dir da).1 → Q (.inl (some (.int (nI (o1R what dir da).2)))) h') : ix_M 132 [.ref 34, .int (nI what), .ref a, .int (nI dir)] h Q := by
  obtain ⟨wn, AR0⟩ := L0.1
  have I := I0
  refine jx (pc' := 1) (L' := [_, _, _, _, _]) (st' := [_]) 1 rfl ?_
  refine jgf (pc' := 4) (I.ob (r := 34) AR0) rfl rfl rfl rfl rfl ?_
  refine jx (pc' := 5) (L' := [_, _, _, _, _]) (st' := [_, _]) 1 rfl ?_
  refine jcv (pc' := 8) 85 [_] [] (I.ob (r := 35) R0.1) rfl rfl rfl rfl rfl rfl rfl rfl ?_
  refine v_copyR I0 R0 A0 fun k I R => jk ?_
  have g0 : ag arl S (va_up (va_up S 35 (aC (dC 35 da.1 da.2.1 da.2.2.1 da.2.2.2.1))) 36 (aN da.2.2.2.2)) := ((ag_0 arl S).up (by decide)).up (by decide)
  have L : Lay (va_up (va_up S 35 (aC (dC 35 da.1 da.2.1 da.2.2.1 da.2.2.2.1))) 36 (aN da.2.2.2.2)) := L0.up35.up36
  have A : RegD (va_up (va_up S 35 (aC (dC 35 da.1 da.2.1 da.2.2.1 da.2.2.2.1))) 36 (aN da.2.2.2.2)) a da := (A0.up (by decide)).up (by decide)
  have q : ∀ h' S', Inv h' S' → Lay S' → ag arl (va_up (va_up S 35 (aC (dC 35 da.1 da.2.1 da.2.2.1 da.2.2.2.1))) 36 (aN da.2.2.2.2)) S' → ResD S' (o1R what dir da).1 → Q (.inl (some (.int (nI (o1R what dir da).2)))) h' := fun h' S' I' L' g R' => q0 h' S' I' L' (g0.tr g (fun _ z => z)) R'
  generalize (va_up (va_up S 35 (aC (dC 35 da.1 da.2.1 da.2.2.1 da.2.2.2.1))) 36 (aN da.2.2.2.2)) = T at *
  obtain ⟨wn, AR⟩ := L.1
  have A2 := A.2.1
  have vA := A.2.2.2
  have R1 := R.1
  unfold o1R at q
  have ts : (what = 9 ∨ what = 10) → ix_E 132 20 [some (.ref 34), some (.int (nI what)), some (.ref a), some (.int (nI dir)), none] [] k Q := by
    intro hc
    simp only [if_pos hc] at q
    have t : ∀ n : Bool, n = (decide (what = 9) && !da.2.2.1) → ix_E 132 42 [some (.ref 34), some (.int (nI what)), some (.ref a), some (.int (nI dir)), none] [.int (bI n), .ref 35] k Q := by
      intro n hn
      rw [← hn] at q
      refine jpA (pc' := 45) (r := 35) I R1 rfl rfl rfl (Nat.le_of_ble_eq_true rfl) (by intro z; cases z) (nb _) (fb _) rfl fun _ I R1 => ?_
      refine jx (pc' := 46) (L' := [_, _, _, _, _]) (st' := [.int (nI 0)]) 1 rfl ?_
      refine jri rfl rfl ?_
      exact q _ _ I L.up35 ((ag_0 _ T).up (by decide)) ⟨rfl, R.2.1, R.2.2⟩
    refine jx (pc' := 21) (L' := [_, _, _, _, _]) (st' := [_]) 1 rfl ?_
    refine jgf (pc' := 24) (I.ob (r := 34) AR) rfl rfl rfl rfl rfl ?_
    refine jx (pc' := 27) (L' := [_, _, _, _, _]) (st' := [.int (nI 9), _, _]) 2 rfl ?_
    by_cases h9 : what = 9
    · skip
      refine jcn (pc' := 30) 41 rfl rfl rfl rfl (by rw [cc_ne (by omega) (by omega)]; exact decide_eq_false (by omega)) ?_
      refine jx (pc' := 31) (L' := [_, _, _, _, _]) (st' := [_, _]) 1 rfl ?_
      refine jgf (pc' := 34) (I.ob (r := a) A2) rfl rfl rfl rfl rfl ?_
      cases hb : da.2.2.1 with
      | true =>
        refine jit (pc' := 41) rfl rfl rfl (rfl) ?_
        refine jx (pc' := 42) (L' := [_, _, _, _, _]) (st' := [.int (nI 0), _]) 1 rfl ?_
        exact t false (by rw [hb]; simp)
      | false =>
        refine jin (pc' := 37) 41 rfl rfl rfl rfl (rfl) ?_
        refine jx (pc' := 42) (L' := [_, _, _, _, _]) (st' := [.int (nI 1), _]) 2 rfl ?_
        exact t true (by rw [hb]; simp [h9])
    · skip
      refine jct (pc' := 41) rfl rfl rfl (by rw [cc_ne (by omega) (by omega)]; exact decide_eq_true (by omega)) ?_
      refine jx (pc' := 42) (L' := [_, _, _, _, _]) (st' := [.int (nI 0), _]) 1 rfl ?_
      exact t false (by simp [h9])
  have tr : ¬ (what = 9 ∨ what = 10) → ¬ 2 ≤ da.2.1 → ix_E 132 62 [some (.ref 34), some (.int (nI what)), some (.ref a), some (.int (nI dir)), none] [] k Q := by
    intro hc hn
    simp only [if_neg hc, if_neg hn] at q
    have hA : da.2.1 < 2 := by omega
    refine jx (pc' := 63) (L' := [_, _, _, _, _]) (st' := [_]) 1 rfl ?_
    by_cases h0 : what = 0
    · simp only [if_pos h0] at q
      refine jin (pc' := 66) 97 rfl rfl rfl rfl (by rw [cz_ne (by omega)]; exact decide_eq_false (by omega)) ?_
      refine jx (pc' := 68) (L' := [_, _, _, _, _]) (st' := [_, _]) 2 rfl ?_
      refine jcv (pc' := 71) 133 [_] [] (I.ob (r := 34) AR) rfl rfl rfl rfl rfl rfl rfl rfl ?_
      refine v_root I L R A hA fun h1 T1 v I L g o => jk ?_
      obtain ⟨wn1, AR1⟩ := L.1
      cases hop : roR da with
      | inl x =>
        rw [hop] at o q
        obtain ⟨o1, o2, o3⟩ := o
        subst o3
        refine jx (pc' := 76) (L' := [_, _, _, _, _]) (st' := [_, _]) 3 rfl ?_
        refine jct (pc' := 94) rfl rfl rfl (by rw [nz, show Int32.ofInt (-1) = zI (-1) from rfl, zc_ne ⟨by omega, by omega⟩ ⟨by decide, by decide⟩]; exact decide_eq_true (by omega)) ?_
        refine jx (pc' := 96) (L' := [_, _, _, _, _]) (st' := [_]) 1 rfl ?_
        refine jri rfl rfl ?_
        exact q _ _ I L g o1
      | inr u =>
        rw [hop] at o q
        obtain ⟨o1, o2, o3, o4, o5⟩ := o
        subst o5
        refine jx (pc' := 76) (L' := [_, _, _, _, _]) (st' := [_, _]) 3 rfl ?_
        refine jcn (pc' := 79) 94 rfl rfl rfl rfl (by decide) ?_
        refine jx (pc' := 80) (L' := [_, _, _, _, _]) (st' := [_]) 1 rfl ?_
        refine jgf (pc' := 83) (I.ob (r := 34) AR1) rfl rfl rfl rfl rfl ?_
        refine jx (pc' := 85) (L' := [_, _, _, _, _]) (st' := [_, _, _]) 2 rfl ?_
        refine jgf (pc' := 88) (I.ob (r := 34) AR1) rfl rfl rfl rfl rfl ?_
        refine jcs (pc' := 91) 103 [_, _, _] [] rfl rfl rfl rfl rfl rfl rfl rfl ?_
        refine v_roundR I L o1 o2 o3 o4 hd fun h' S' I' L' g' R' => jk ?_
        refine jx (pc' := 96) (L' := [_, _, _, _, _]) (st' := [_]) 1 rfl ?_
        refine jri rfl rfl ?_
        exact q _ _ I' L' (g.tr g' (fun _ z => z)) R'
    · simp only [if_neg h0] at q
      refine jit (pc' := 97) rfl rfl rfl (by rw [cz_ne (by omega)]; exact decide_eq_true (by omega)) ?_
      have hcs : what = 6 ∨ what = 7 ∨ what = 8 ∨ what = 11 ∨ (1 ≤ what ∧ what ≤ 5) := by omega
      rcases hcs with rfl | rfl | rfl | rfl | hw5
      · skip
        refine jx (pc' := 98) (L' := [_, _, _, _, _]) (st' := [_]) 1 rfl ?_
        refine jx (pc' := 136) (L' := [_, _, _, _, _]) (st' := []) 1 rfl ?_
        refine jx (pc' := 138) (L' := [_, _, _, _, _]) (st' := [_, _]) 2 rfl ?_
        refine jcv (pc' := 141) 135 [_] [] (I.ob (r := 34) AR) rfl rfl rfl rfl rfl rfl rfl rfl ?_
        refine v_makeWhole I L R hd vA fun h' S' I' L' g R' => jk ?_
        cases hb : (mwR dir da).2 with
        | true =>
          refine jin (pc' := 144) 149 rfl rfl rfl rfl (rfl) ?_
          refine jx (pc' := 150) (L' := [_, _, _, _, _]) (st' := [.int (nI 16)]) 2 rfl ?_
          refine jri rfl rfl ?_
          simp only [hb] at q
          exact q _ _ I' L' (g.w (by decide)) R'
        | false =>
          refine jit (pc' := 149) rfl rfl rfl (rfl) ?_
          refine jx (pc' := 150) (L' := [_, _, _, _, _]) (st' := [.int (nI 0)]) 1 rfl ?_
          refine jri rfl rfl ?_
          simp only [hb] at q
          exact q _ _ I' L' (g.w (by decide)) R'
      · skip
        refine jx (pc' := 98) (L' := [_, _, _, _, _]) (st' := [_]) 1 rfl ?_
        refine jx (pc' := 151) (L' := [_, _, _, _, _]) (st' := []) 1 rfl ?_
        refine jx (pc' := 154) (L' := [_, _, _, _, _]) (st' := [.int (nI 0), _, _]) 3 rfl ?_
        refine jcv (pc' := 157) 136 [_, .int (nI 0)] [] (I.ob (r := 34) AR) rfl rfl rfl rfl rfl rfl rfl rfl ?_
        refine v_next (m := false) I L R A hA fun h' S' I' L' g R' => jk ?_
        refine jx (pc' := 158) (L' := [_, _, _, _, _]) (st' := [.int (nI 0)]) 1 rfl ?_
        refine jri rfl rfl ?_
        exact q _ _ I' L' (g.w (by decide)) R'
      · skip
        refine jx (pc' := 98) (L' := [_, _, _, _, _]) (st' := [_]) 1 rfl ?_
        refine jx (pc' := 159) (L' := [_, _, _, _, _]) (st' := []) 1 rfl ?_
        refine jx (pc' := 162) (L' := [_, _, _, _, _]) (st' := [.int (nI 1), _, _]) 3 rfl ?_
        refine jcv (pc' := 165) 136 [_, .int (nI 1)] [] (I.ob (r := 34) AR) rfl rfl rfl rfl rfl rfl rfl rfl ?_
        refine v_next (m := true) I L R A hA fun h' S' I' L' g R' => jk ?_
        refine jx (pc' := 166) (L' := [_, _, _, _, _]) (st' := [.int (nI 0)]) 1 rfl ?_
        refine jri rfl rfl ?_
        exact q _ _ I' L' (g.w (by decide)) R'
      · skip
        refine jx (pc' := 98) (L' := [_, _, _, _, _]) (st' := [_]) 1 rfl ?_
        refine jx (pc' := 167) (L' := [_, _, _, _, _]) (st' := []) 1 rfl ?_
        refine jx (pc' := 168) (L' := [_, _, _, _, _]) (st' := [.int (nI 0)]) 1 rfl ?_
        refine jri rfl rfl ?_
        exact q _ _ I L (ag_0 _ T) R
      · rw [if_neg (by omega), if_neg (by omega), if_neg (by omega), if_neg (by omega)] at q
        refine jx (pc' := 98) (L' := [_, _, _, _, _]) (st' := [_]) 1 rfl ?_
        refine jx1 (pc' := 169) (L' := [some (.ref 34), some (.int (nI what)), some (.ref a), some (.int (nI dir)), none]) (st' := []) (h' := k) ?_ ?_
        · rw [ix_s1_of (i := .tableswitch 71 6 11 #[38, 53, 61, 71, 71, 69]) rfl rfl rfl rfl]
          simp only [ix_x1, ix_x0, ix_sw, nI_toInt (show what < 2 ^ 31 by omega)]
          rw [if_pos (by omega)]
          rfl
        refine jx (pc' := 173) (L' := [_, _, _, _, _]) (st' := [_, _]) 4 rfl ?_
        try simp (disch := omega) only [ki1, nI_add, nI_mul, nI_sub, Nat.zero_mul, Nat.one_mul, Nat.sub_zero, Nat.add_zero, Nat.zero_add, Nat.add_sub_cancel]
        refine jcv (pc' := 176) 135 [_] [] (I.ob (r := 34) AR) rfl rfl rfl rfl rfl rfl rfl rfl ?_
        refine v_makeWhole (dir := what - 1) I L R (by omega) vA fun h' S' I' L' g R' => jk ?_
        refine jx (pc' := 178) (L' := [_, _, _, _, _]) (st' := [.int (nI 0)]) 2 rfl ?_
        try simp (disch := omega) only [ki0, nI_add, nI_mul, nI_sub, Nat.zero_mul, Nat.one_mul, Nat.sub_zero, Nat.add_zero, Nat.zero_add, Nat.add_sub_cancel]
        refine jri rfl rfl ?_
        exact q _ _ I' L' (g.w (by decide)) R'
  have tn : ¬ (what = 9 ∨ what = 10) → ix_E 132 47 [some (.ref 34), some (.int (nI what)), some (.ref a), some (.int (nI dir)), none] [] k Q := by
    intro hc
    refine jx (pc' := 48) (L' := [_, _, _, _, _]) (st' := [_]) 1 rfl ?_
    refine jcv (pc' := 51) 79 [] [] (I.ob (r := a) A2) rfl rfl rfl rfl rfl rfl rfl rfl ?_
    refine v_isNaN I A2 vA.2.1 (jk ?_)
    by_cases e1 : 2 ≤ da.2.1
    · simp only [if_neg hc, if_pos e1] at q
      refine jin (pc' := 54) 62 rfl rfl rfl rfl (by rw [bz_eq]; simp [e1]) ?_
      refine jx (pc' := 58) (L' := [_, _, _, _, _]) (st' := [_, _, _, _]) 4 rfl ?_
      refine jcv (pc' := 61) 115 [_, _, _] [] (I.ob (r := 34) AR) rfl rfl rfl rfl rfl rfl rfl rfl ?_
      refine v_passNaN I L R A A A fun h' S' I' L' g R' => jk ?_
      refine jri rfl rfl ?_
      exact q _ _ I' L' (g.w (by decide)) R'
    · skip
      refine jit (pc' := 62) rfl rfl rfl (by rw [bz_eq]; simp [e1]) ?_
      exact tr hc e1
  refine jx (pc' := 11) (L' := [_, _, _, _, _]) (st' := [.int (nI 9), _]) 2 rfl ?_
  by_cases h9 : what = 9
  · skip
    refine jct (pc' := 20) rfl rfl rfl (by rw [cc_eq (by omega) (by omega)]; exact decide_eq_true (by omega)) ?_
    exact ts (Or.inl h9)
  · skip
    refine jcn (pc' := 14) 20 rfl rfl rfl rfl (by rw [cc_eq (by omega) (by omega)]; exact decide_eq_false (by omega)) ?_
    refine jx (pc' := 17) (L' := [_, _, _, _, _]) (st' := [.int (nI 10), _]) 2 rfl ?_
    by_cases hx : what = 10
    · skip
      refine jcn (pc' := 20) 47 rfl rfl rfl rfl (by rw [cc_ne (by omega) (by omega)]; exact decide_eq_false (by omega)) ?_
      exact ts (Or.inr hx)
    · skip
      refine jct (pc' := 47) rfl rfl rfl (by rw [cc_ne (by omega) (by omega)]; exact decide_eq_true (by omega)) ?_
      exact tn (fun z => z.elim h9 hx)
end ART
