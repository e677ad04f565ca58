/-! ===== Arithmetic: pickBesideNaN, pick ===== -/
abbrev nq (A : Dm) : Dm := (A.1, 3, A.2.2.1, A.2.2.2.1, A.2.2.2.2)
def pbN (A B : Dm) : Dm × Nat := if A.2.1 = 3 ∧ B.2.1 < 2 then (B, 0) else if B.2.1 = 3 ∧ A.2.1 < 2 then (A, 0) else (nq (nanP A B B), (nanS A B B).toNat)
noncomputable def szD (A B : Dm) : Int := szs A.2.1 A.2.2.2.1 A.2.2.2.2 B.2.1 B.2.2.2.1 B.2.2.2.2
noncomputable def vlD (A B : Dm) : Int := vls A.2.1 A.2.2.1 A.2.2.2.1 A.2.2.2.2 B.2.1 B.2.2.1 B.2.2.2.1 B.2.2.2.2
noncomputable def pkO (what : Nat) (A B : Dm) : Int := if 8 ≤ what ∧ ¬ szD A B = 0 then szD A B else vlD A B
noncomputable def pkD (what : Nat) (A B : Dm) : Dm := if (if what = 7 ∨ what = 9 then pkO what A B < 0 else 0 < pkO what A B) then B else A
theorem vls_b (sa : Nat) (na : Bool) (ea : Int) (ca sb : Nat) (nb' : Bool) (eb : Int) (cb : Nat) : -1 ≤ vls sa na ea ca sb nb' eb cb ∧ vls sa na ea ca sb nb' eb cb ≤ 1 := by
  have := szs_b sa ea ca sb eb cb
  unfold vls
  split
  · omega
  · split
    · split <;> omega
    · split <;> omega
section ART
variable {h : ix_H} {Q : ix_O → ix_H → Prop} {S : Nat → AC} {a b c what : Nat} {da db dc dr : Dm}
theorem v_pickBesideNaN (I : Inv h S) (L : Lay S) (R : ResD S da) (A : RegD S a da) (B : RegD S b db) (q : ∀ h' S', Inv h' S' → Lay S' → ag [35, 36] S S' → ResD S' (pbN da db).1 → Q (.inl (some (.int (nI (pbN da db).2)))) h') : ix_M 114 [.ref 34, .ref a, .ref b] h Q := by
  obtain ⟨wn, AR⟩ := L.1
  have hA := A.2.2.2.2.1
  have hB := B.2.2.2.2.1
  have A2 := A.2.1
  have B2 := B.2.1
  have t2 : ¬ (da.2.1 = 3 ∧ db.2.1 < 2) → ¬ (db.2.1 = 3 ∧ da.2.1 < 2) → ix_E 114 42 [some (.ref 34), some (.ref a), some (.ref b)] [] h Q := by
    intro n1 n2
    unfold pbN at q
    simp only [if_neg n1, if_neg n2] at q
    refine jx (pc' := 46) (L' := [_, _, _]) (st' := [_, _, _, _]) 4 rfl ?_
    refine jcv (pc' := 49) 115 [_, _, _] [] (I.ob (r := 34) AR) rfl rfl rfl rfl rfl rfl rfl rfl ?_
    refine v_passNaN I L R A B B fun h' S' I' L' g R' => jk ?_
    refine jri rfl rfl ?_
    exact q h' S' I' L' g R'
  have t1 : ¬ (da.2.1 = 3 ∧ db.2.1 < 2) → ix_E 114 25 [some (.ref 34), some (.ref a), some (.ref b)] [] h Q := by
    intro n1
    refine jx (pc' := 26) (L' := [_, _, _]) (st' := [_]) 1 rfl ?_
    refine jgf (pc' := 29) (I.ob (r := b) B2) rfl rfl rfl rfl rfl ?_
    refine jx (pc' := 30) (L' := [_, _, _]) (st' := [.int (nI 3), _]) 1 rfl ?_
    by_cases e1 : db.2.1 = 3
    · skip
      refine jcn (pc' := 33) 42 rfl rfl rfl rfl (by rw [cc_ne (by omega) (by omega)]; exact decide_eq_false (by omega)) ?_
      refine jx (pc' := 34) (L' := [_, _, _]) (st' := [_]) 1 rfl ?_
      refine jcv (pc' := 37) 79 [] [] (I.ob (r := a) A2) rfl rfl rfl rfl rfl rfl rfl rfl ?_
      refine v_isNaN I A2 hA (jk ?_)
      by_cases e2 : da.2.1 < 2
      · skip
        refine jin (pc' := 40) 42 rfl rfl rfl rfl (by rw [bz_ne]; exact decide_eq_false (by omega)) ?_
        refine jx (pc' := 41) (L' := [_, _, _]) (st' := [.int (nI 0)]) 1 rfl ?_
        refine jri rfl rfl ?_
        have n2 : db.2.1 = 3 ∧ da.2.1 < 2 := ⟨e1, e2⟩
        unfold pbN at q
        simp only [if_neg n1, if_pos n2] at q
        exact q h S I L (ag_0 _ S) R
      · skip
        refine jit (pc' := 42) rfl rfl rfl (by rw [bz_ne]; exact decide_eq_true (by omega)) ?_
        exact t2 n1 (by omega)
    · skip
      refine jct (pc' := 42) rfl rfl rfl (by rw [cc_ne (by omega) (by omega)]; exact decide_eq_true (by omega)) ?_
      exact t2 n1 (by omega)
  refine jx (pc' := 1) (L' := [_, _, _]) (st' := [_]) 1 rfl ?_
  refine jgf (pc' := 4) (I.ob (r := a) A2) rfl rfl rfl rfl rfl ?_
  refine jx (pc' := 5) (L' := [_, _, _]) (st' := [.int (nI 3), _]) 1 rfl ?_
  by_cases e1 : da.2.1 = 3
  · skip
    refine jcn (pc' := 8) 25 rfl rfl rfl rfl (by rw [cc_ne (by omega) (by omega)]; exact decide_eq_false (by omega)) ?_
    refine jx (pc' := 9) (L' := [_, _, _]) (st' := [_]) 1 rfl ?_
    refine jcv (pc' := 12) 79 [] [] (I.ob (r := b) B2) rfl rfl rfl rfl rfl rfl rfl rfl ?_
    refine v_isNaN I B2 hB (jk ?_)
    by_cases e2 : db.2.1 < 2
    · skip
      refine jin (pc' := 15) 25 rfl rfl rfl rfl (by rw [bz_ne]; exact decide_eq_false (by omega)) ?_
      refine jx (pc' := 16) (L' := [_, _, _]) (st' := [_]) 1 rfl ?_
      refine jgf (pc' := 19) (I.ob (r := 34) AR) rfl rfl rfl rfl rfl ?_
      refine jx (pc' := 20) (L' := [_, _, _]) (st' := [_, _]) 1 rfl ?_
      refine jcv (pc' := 23) 85 [_] [] (I.ob (r := 35) R.1) rfl rfl rfl rfl rfl rfl rfl rfl ?_
      refine v_copyR I R B fun _ I R => jk ?_
      refine jx (pc' := 24) (L' := [_, _, _]) (st' := [.int (nI 0)]) 1 rfl ?_
      refine jri rfl rfl ?_
      have n1 : da.2.1 = 3 ∧ db.2.1 < 2 := ⟨e1, e2⟩
      unfold pbN at q
      simp only [if_pos n1] at q
      exact q _ _ I L.up35.up36 (((ag_0 _ S).up (by decide)).up (by decide)) R
    · skip
      refine jit (pc' := 25) rfl rfl rfl (by rw [bz_ne]; exact decide_eq_true (by omega)) ?_
      exact t1 (by omega)
  · skip
    refine jct (pc' := 25) rfl rfl rfl (by rw [cc_ne (by omega) (by omega)]; exact decide_eq_true (by omega)) ?_
    exact t1 (by omega)
/-- Arithmetic.pick -/
theorem v_pick (I : Inv h S) (L : Lay S) (R : ResD S da) (A : RegD S a da) (B : RegD S b db) (hA : da.2.1 < 2) (hB : db.2.1 < 2) (hw : 6 ≤ what ∧ what ≤ 9) (q : ∀ h' S', Inv h' S' → Lay S' → ag [35, 36, 48] S S' → ResD S' (pkD what da db) → Q (.inl (some (.int (nI 0)))) h') : ix_M 130 [.ref 34, .int (nI what), .ref a, .ref b] h Q := by
  obtain ⟨wn, AR⟩ := L.1
  have CM := L.2.2.2.2.2.2.1
  have hz := szs_b da.2.1 da.2.2.2.1 da.2.2.2.2 db.2.1 db.2.2.2.1 db.2.2.2.2
  have hv := vls_b da.2.1 da.2.2.1 da.2.2.2.1 da.2.2.2.2 db.2.1 db.2.2.1 db.2.2.2.1 db.2.2.2.2
  have t5 : ∀ (h1 : ix_H) (w : Nat) (l5 : Option Value), (if what = 7 ∨ what = 9 then pkO what da db < 0 else 0 < pkO what da db) → Inv h1 (va_up S 48 (aN w)) → ∀ l4, ix_E 130 74 [some (.ref 34), some (.int (nI what)), some (.ref a), some (.ref b), l4, l5] [] h1 Q := by
    intro h1 w l5 hc I l4
    unfold pkD at q
    simp only [if_pos hc] at q
    refine jx (pc' := 75) (L' := [_, _, _, _, _, _]) (st' := [_]) 1 rfl ?_
    refine jgf (pc' := 78) (I.ob (r := 34) AR) rfl rfl rfl rfl rfl ?_
    refine jx (pc' := 79) (L' := [_, _, _, _, _, _]) (st' := [_, _]) 1 rfl ?_
    refine jcv (pc' := 82) 85 [_] [] (I.ob (r := 35) R.1) rfl rfl rfl rfl rfl rfl rfl rfl ?_
    refine v_copyR (S := va_up S 48 (aN w)) (dr := da) I R (B.up (by decide)) fun _ I R => jk ?_
    refine jx (pc' := 83) (L' := [_, _, _, _, _, _]) (st' := [.int (nI 0)]) 1 rfl ?_
    refine jri rfl rfl ?_
    exact q _ _ I L.up48.up35.up36 ((((ag_0 _ S).up (by decide)).up (by decide)).up (by decide)) R
  have t6 : ∀ (h1 : ix_H) (w : Nat) (l5 : Option Value), ¬ (if what = 7 ∨ what = 9 then pkO what da db < 0 else 0 < pkO what da db) → Inv h1 (va_up S 48 (aN w)) → ∀ l4, ix_E 130 82 [some (.ref 34), some (.int (nI what)), some (.ref a), some (.ref b), l4, l5] [] h1 Q := by
    intro h1 w l5 hc I l4
    unfold pkD at q
    simp only [if_neg hc] at q
    refine jx (pc' := 83) (L' := [_, _, _, _, _, _]) (st' := [.int (nI 0)]) 1 rfl ?_
    refine jri rfl rfl ?_
    exact q _ _ I L.up48 ((ag_0 _ S).up (by decide)) R
  have t4 : ∀ (h1 : ix_H) (w : Nat), Inv h1 (va_up S 48 (aN w)) → ix_E 130 37 [some (.ref 34), some (.int (nI what)), some (.ref a), some (.ref b), some (.int (zI (pkO what da db))), none] [] h1 Q := by
    intro h1 w I
    have hp : -1 ≤ pkO what da db ∧ pkO what da db ≤ 1 := by
      unfold pkO
      split
      · exact hz
      · exact hv
    have gr : ∀ g : Bool, g = decide (what = 7 ∨ what = 9) → ix_E 130 54 [some (.ref 34), some (.int (nI what)), some (.ref a), some (.ref b), some (.int (zI (pkO what da db))), none] [.int (bI g)] h1 Q := by
      intro g hg
      refine jx (pc' := 58) (L' := [_, _, _, _, _, _]) (st' := [_]) 2 rfl ?_
      cases g with
      | true =>
        have hg := of_decide_eq_true hg.symm
        refine jin (pc' := 61) 69 rfl rfl rfl rfl (rfl) ?_
        refine jx (pc' := 63) (L' := [_, _, _, _, _, _]) (st' := [_]) 1 rfl ?_
        by_cases hl : pkO what da db < 0
        · skip
          refine jin (pc' := 66) 82 rfl rfl rfl rfl (by rw [zz_ge ⟨by omega, by omega⟩]; exact decide_eq_false (by omega)) ?_
          refine jx (pc' := 74) (L' := [_, _, _, _, _, _]) (st' := []) 1 rfl ?_
          exact t5 h1 w _ (by rw [if_pos hg]; exact hl) I _
        · skip
          refine jit (pc' := 82) rfl rfl rfl (by rw [zz_ge ⟨by omega, by omega⟩]; exact decide_eq_true (by omega)) ?_
          exact t6 h1 w _ (by rw [if_pos hg]; exact hl) I _
      | false =>
        have hg := of_decide_eq_false hg.symm
        refine jit (pc' := 69) rfl rfl rfl (rfl) ?_
        refine jx (pc' := 71) (L' := [_, _, _, _, _, _]) (st' := [_]) 1 rfl ?_
        by_cases hl : 0 < pkO what da db
        · skip
          refine jin (pc' := 74) 82 rfl rfl rfl rfl (by rw [zz_le ⟨by omega, by omega⟩]; exact decide_eq_false (by omega)) ?_
          exact t5 h1 w _ (by rw [if_neg hg]; exact hl) I _
        · skip
          refine jit (pc' := 82) rfl rfl rfl (by rw [zz_le ⟨by omega, by omega⟩]; exact decide_eq_true (by omega)) ?_
          exact t6 h1 w _ (by rw [if_neg hg]; exact hl) I _
    refine jx (pc' := 40) (L' := [_, _, _, _, _, _]) (st' := [.int (nI 7), _]) 2 rfl ?_
    by_cases e7 : what = 7
    · skip
      refine jct (pc' := 49) rfl rfl rfl (by rw [cc_eq (by omega) (by omega)]; exact decide_eq_true (by omega)) ?_
      refine jx (pc' := 54) (L' := [_, _, _, _, _, _]) (st' := [.int (nI 1)]) 2 rfl ?_
      exact gr true (decide_eq_true (Or.inl e7)).symm
    · skip
      refine jcn (pc' := 43) 49 rfl rfl rfl rfl (by rw [cc_eq (by omega) (by omega)]; exact decide_eq_false (by omega)) ?_
      refine jx (pc' := 46) (L' := [_, _, _, _, _, _]) (st' := [.int (nI 9), _]) 2 rfl ?_
      by_cases e9 : what = 9
      · skip
        refine jcn (pc' := 49) 53 rfl rfl rfl rfl (by rw [cc_ne (by omega) (by omega)]; exact decide_eq_false (by omega)) ?_
        refine jx (pc' := 54) (L' := [_, _, _, _, _, _]) (st' := [.int (nI 1)]) 2 rfl ?_
        exact gr true (decide_eq_true (Or.inr e9)).symm
      · skip
        refine jct (pc' := 53) rfl rfl rfl (by rw [cc_ne (by omega) (by omega)]; exact decide_eq_true (by omega)) ?_
        refine jx (pc' := 54) (L' := [_, _, _, _, _, _]) (st' := [.int (nI 0)]) 1 rfl ?_
        exact gr false (decide_eq_false (by omega)).symm
  have t3 : ∀ (h1 : ix_H) (w : Nat) (o : Int), Inv h1 (va_up S 48 (aN w)) → o = (if 8 ≤ what then szD da db else 0) → -1 ≤ o → o ≤ 1 → ix_E 130 19 [some (.ref 34), some (.int (nI what)), some (.ref a), some (.ref b), none, none] [.int (zI o)] h1 Q := by
    intro h1 w o I ho o1 o2
    refine jx (pc' := 23) (L' := [_, _, _, _, _, _]) (st' := [_]) 2 rfl ?_
    by_cases o0 : o = 0
    · have e : vlD da db = pkO what da db := by
        unfold pkO
        rw [if_neg]
        intro z
        rw [if_pos z.1] at ho
        exact z.2 (ho.symm.trans o0)
      refine jin (pc' := 26) 37 rfl rfl rfl rfl (by rw [zz_ne ⟨by omega, by omega⟩]; exact decide_eq_false (by omega)) ?_
      refine jx (pc' := 27) (L' := [_, _, _, _, _, _]) (st' := [_]) 1 rfl ?_
      refine jgf (pc' := 30) (I.ob (r := 34) AR) rfl rfl rfl rfl rfl ?_
      refine jx (pc' := 32) (L' := [_, _, _, _, _, _]) (st' := [_, _, _]) 2 rfl ?_
      refine jcv (pc' := 35) 109 [_, _] [] (I.ob (r := 47) CM) rfl rfl rfl rfl rfl rfl rfl rfl ?_
      refine v_values (k := 47) (w := w) I CM rfl (by decide) (A.up (by decide)) (B.up (by decide)) hA hB fun _ w' I => jk ?_
      rw [va_up_up] at I
      refine jx (pc' := 37) (L' := [_, _, _, _, _, _]) (st' := []) 1 rfl ?_
      have := t4 _ w' I
      rw [← e] at this
      exact this
    · have e : o = pkO what da db := by
        unfold pkO
        by_cases h8 : 8 ≤ what
        · rw [if_pos h8] at ho
          rw [if_pos ⟨h8, fun z => o0 (ho.trans z)⟩]
          exact ho
        · rw [if_neg h8] at ho
          exact absurd ho o0
      refine jit (pc' := 37) rfl rfl rfl (by rw [zz_ne ⟨by omega, by omega⟩]; exact decide_eq_true (by omega)) ?_
      rw [e]
      exact t4 _ w I
  obtain ⟨w, W⟩ := L.2.2.2.2.2.2.2.1
  refine jx (pc' := 3) (L' := [_, _, _, _, _, _]) (st' := [.int (nI 8), _]) 2 rfl ?_
  by_cases h8 : 8 ≤ what
  · skip
    refine jcn (pc' := 6) 18 rfl rfl rfl rfl (by rw [cc_lt (by omega) (by omega)]; exact decide_eq_false (by omega)) ?_
    refine jx (pc' := 7) (L' := [_, _, _, _, _, _]) (st' := [_]) 1 rfl ?_
    refine jgf (pc' := 10) (I.ob (r := 34) AR) rfl rfl rfl rfl rfl ?_
    refine jx (pc' := 12) (L' := [_, _, _, _, _, _]) (st' := [_, _, _]) 2 rfl ?_
    refine jcv (pc' := 15) 108 [_, _] [] (I.ob (r := 47) CM) rfl rfl rfl rfl rfl rfl rfl rfl ?_
    refine v_sizes (k := 47) (w := w) I CM W (by decide) A B hA hB fun _ w' I => jk ?_
    refine jx (pc' := 19) (L' := [_, _, _, _, _, _]) (st' := [_]) 1 rfl ?_
    exact t3 _ w' _ I (by rw [if_pos h8]; rfl) hz.1 hz.2
  · skip
    refine jct (pc' := 18) rfl rfl rfl (by rw [cc_lt (by omega) (by omega)]; exact decide_eq_true (by omega)) ?_
    refine jx (pc' := 19) (L' := [_, _, _, _, _, _]) (st' := [.int (nI 0)]) 1 rfl ?_
    exact t3 _ w 0 (by rw [va_up_id W]; exact I) (by rw [if_neg h8]) (by decide) (by decide)
end ART
