/-! ===== the reference: multiply, fuse ===== -/
noncomputable def muF (dr : Nat) (A B : Dm) : Dm × Nat :=
  if ((A.2.1 = 0 ∧ A.2.2.2.2 = 0) ∧ B.2.1 = 1) ∨ (A.2.1 = 1 ∧ (B.2.1 = 0 ∧ B.2.2.2.2 = 0)) then (iv A, 1) else
  if A.2.1 = 1 ∨ B.2.1 = 1 then (inf A (xo A B), 0) else
  rr A.1 dr (xo A B) (xo A B) false (A.2.2.2.1 + B.2.2.2.1) (pV (A.2.2.2.1 + B.2.2.2.1) (A.2.2.2.2 * B.2.2.2.2))
noncomputable def fuF (dr : Nat) (A B C : Dm) : Dm × Nat :=
  if ((A.2.1 = 0 ∧ A.2.2.2.2 = 0) ∧ B.2.1 = 1) ∨ (A.2.1 = 1 ∧ (B.2.1 = 0 ∧ B.2.2.2.2 = 0)) then (if 2 ≤ C.2.1 then (nq C, 1) else (iv A, 1)) else
  if 2 ≤ A.2.1 ∨ 2 ≤ B.2.1 ∨ 2 ≤ C.2.1 then (nq (nanP A B C), (nanS A B C).toNat) else
  if A.2.1 = 1 ∨ B.2.1 = 1 then (if C.2.1 = 1 ∧ ¬ xo A B = C.2.2.1 then (iv A, 1) else (inf A (xo A B), 0)) else
  if C.2.1 = 1 then (inf A C.2.2.1, 0) else
  sumF A.1 dr (xo A B) (A.2.2.2.1 + B.2.2.2.1) (A.2.2.2.2 * B.2.2.2.2) C.2.2.1 C.2.2.2.1 C.2.2.2.2
section REF
variable {h : ix_H} {Q : ix_O → ix_H → Prop} {S0 : Nat → AC} {R : Nat → Dm} {V cd dr ra si tr : Nat} {mo ng : Bool} {sp sz wr : Nat} {il : Bool} {rs pt rl wo tx ou : Nat → Nat} {j x : Int} {r f s m a : Nat} {b t : Bool}
theorem m_multiply (K : (RI S0 h R V cd dr ra si tr mo ng sp sz wr il rs pt rl wo tx ou)) (vA : ValD (R 9)) (vB : ValD (R 10)) (hA : (R 9).2.1 < 2) (hB : (R 10).2.1 < 2) (hdr : dr < 5) (q : ∀ h', (RJ S0 h' (va_up R 8 (muF dr (R 9) (R 10)).1) cd dr ra (si ||| (muF dr (R 9) (R 10)).2) tr sz wr tx ou) → Q (.inl none) h') : ix_M 218 [.ref 98, .int (zI 9), .int (zI 10)] h Q := by
  have bA := Val.b vA
  have bB := Val.b vB
  have cA := Val.c34 vA
  have cB := Val.c34 vB
  have hsA := swp_b vA.2.1
  have hsB := swp_b vB.2.1
  have fA := vA.1
  unfold muF at q
  have t20 : ∀ sg : Bool, sg = xo (R 9) (R 10) → ix_E 218 20 [some (.ref 98), some (.int (zI 9)), some (.int (zI 10)), none] [.int (bI sg)] h Q := by
    intro sg hsg
    rw [← hsg] at q
    refine jx (pc' := 24) (L' := [_, _, _, _]) (st' := [_, _, _]) 4 rfl ?_
    refine jcv (pc' := 27) 219 [_, _] [] K.ob rfl rfl rfl rfl rfl rfl rfl rfl ?_
    refine m_isBad (a := 9) (c := 10) K rfl rfl (by decide) (by decide) (jk ?_)
    by_cases hbad : (((R 9).2.1 = 0 ∧ (R 9).2.2.2.2 = 0) ∧ (R 10).2.1 = 1) ∨ ((R 9).2.1 = 1 ∧ ((R 10).2.1 = 0 ∧ (R 10).2.2.2.2 = 0))
    · rw [if_pos hbad] at q
      refine jin (pc' := 30) 41 rfl rfl rfl rfl (by rw [bz_eq, decide_eq_true hbad]; rfl) ?_
      refine jx (pc' := 32) (L' := [_, _, _, _]) (st' := [_, _]) 2 rfl ?_
      refine jgf (pc' := 35) K.ob rfl rfl rfl rfl rfl ?_
      refine jx (pc' := 36) (L' := [_, _, _, _]) (st' := [_, _, _]) 1 rfl ?_
      refine jR_f (pc' := 37) 9 K rfl rfl (by omega) (by omega)  rfl ?_
      refine jcv (pc' := 40) 201 [_] [] K.ob rfl rfl rfl rfl rfl rfl rfl rfl ?_
      refine m_invalid K rfl fA fun h K => jk ?_
      refine ix_qr _ rfl rfl rfl ?_
      exact q _ K.rj
    · rw [if_neg hbad] at q
      refine jit (pc' := 41) rfl rfl rfl (by rw [bz_eq, decide_eq_false hbad]; rfl) ?_
      have t61 : ((R 9).2.1 = 1 ∨ (R 10).2.1 = 1) → ix_E 218 61 [some (.ref 98), some (.int (zI 9)), some (.int (zI 10)), some (.int (bI sg))] [] h Q := by
        intro hi
        rw [if_pos hi] at q
        simp only [Nat.or_zero] at q
        refine jx (pc' := 63) (L' := [_, _, _, _]) (st' := [_, _]) 2 rfl ?_
        refine jgf (pc' := 66) K.ob rfl rfl rfl rfl rfl ?_
        refine jx (pc' := 67) (L' := [_, _, _, _]) (st' := [_, _, _]) 1 rfl ?_
        refine jR_f (pc' := 68) 9 K rfl rfl (by omega) (by omega)  rfl ?_
        refine jx (pc' := 69) (L' := [_, _, _, _]) (st' := [_, _, _]) 1 rfl ?_
        refine jcv (pc' := 72) 203 [_, _] [] K.ob rfl rfl rfl rfl rfl rfl rfl rfl ?_
        refine m_infinite K rfl fA fun h K => jk ?_
        refine ix_qr _ rfl rfl rfl ?_
        exact q _ K.rj
      refine jx (pc' := 42) (L' := [_, _, _, _]) (st' := [_]) 1 rfl ?_
      refine jgf (pc' := 45) K.ob rfl rfl rfl rfl rfl ?_
      refine jx (pc' := 46) (L' := [_, _, _, _]) (st' := [_, _]) 1 rfl ?_
      refine jR_so (pc' := 47) 9 K rfl rfl (by omega) (by omega)  rfl ?_
      refine jx (pc' := 48) (L' := [_, _, _, _]) (st' := [.int (zI 1), _]) 1 rfl ?_
      by_cases e : (R 9).2.1 = 1
      · have e1 := swp_1.mpr e
        refine jct (pc' := 61) rfl rfl rfl (by rw [zc_eq ⟨by omega, by omega⟩ ⟨by omega, by omega⟩]; exact decide_eq_true (by omega)) ?_
        exact t61 (Or.inl e)
      · have e1 : ¬ swp (R 9).2.1 = 1 := fun z => e (swp_1.mp z)
        refine jcn (pc' := 51) 61 rfl rfl rfl rfl (by rw [zc_eq ⟨by omega, by omega⟩ ⟨by omega, by omega⟩]; exact decide_eq_false (by omega)) ?_
        refine jx (pc' := 52) (L' := [_, _, _, _]) (st' := [_]) 1 rfl ?_
        refine jgf (pc' := 55) K.ob rfl rfl rfl rfl rfl ?_
        refine jx (pc' := 56) (L' := [_, _, _, _]) (st' := [_, _]) 1 rfl ?_
        refine jR_so (pc' := 57) 10 K rfl rfl (by omega) (by omega)  rfl ?_
        refine jx (pc' := 58) (L' := [_, _, _, _]) (st' := [.int (zI 1), _]) 1 rfl ?_
        by_cases e2 : (R 10).2.1 = 1
        · have e3 := swp_1.mpr e2
          refine jcn (pc' := 61) 73 rfl rfl rfl rfl (by rw [zc_ne ⟨by omega, by omega⟩ ⟨by omega, by omega⟩]; exact decide_eq_false (by omega)) ?_
          exact t61 (Or.inr e2)
        · have e3 : ¬ swp (R 10).2.1 = 1 := fun z => e2 (swp_1.mp z)
          rw [if_neg (fun z => z.elim e e2)] at q
          refine jct (pc' := 73) rfl rfl rfl (by rw [zc_ne ⟨by omega, by omega⟩ ⟨by omega, by omega⟩]; exact decide_eq_true (by omega)) ?_
          refine jx (pc' := 76) (L' := [_, _, _, _]) (st' := [_, _, _]) 3 rfl ?_
          refine jcv (pc' := 79) 220 [_, _] [] K.ob rfl rfl rfl rfl rfl rfl rfl rfl ?_
          refine m_layProduct (a := 9) (c := 10) K rfl rfl (by decide) (by decide) (12500 + ((R 9).2.2.2.1 + (R 10).2.2.2.1)).toNat (by omega) (by omega) fun h K => jk ?_
          refine jx (pc' := 81) (L' := [_, _, _, _]) (st' := [_, _]) 2 rfl ?_
          refine jp_ng (pc' := 84) sg K (by first | rfl | (congr 1; omega)) rfl rfl rfl rfl fun h K => ?_
          refine jx (pc' := 86) (L' := [_, _, _, _]) (st' := [_, _]) 2 rfl ?_
          refine jgf (pc' := 89) K.ob rfl rfl rfl rfl rfl ?_
          refine jx (pc' := 90) (L' := [_, _, _, _]) (st' := [_, _, _]) 1 rfl ?_
          refine jR_f (pc' := 91) 9 K rfl rfl (by omega) (by omega)  rfl ?_
          refine jx (pc' := 92) (L' := [_, _, _, _]) (st' := [_, _, _]) 1 rfl ?_
          refine jgf (pc' := 95) K.ob rfl rfl rfl rfl rfl ?_
          refine jx (pc' := 96) (L' := [_, _, _, _]) (st' := [_, _, _, _]) 1 rfl ?_
          refine jR_p (pc' := 97) 9 K rfl rfl (by omega) (by omega)  rfl ?_
          refine jx (pc' := 98) (L' := [_, _, _, _]) (st' := [_, _, _, _]) 1 rfl ?_
          refine jgf (pc' := 101) K.ob rfl rfl rfl rfl rfl ?_
          refine jx (pc' := 102) (L' := [_, _, _, _]) (st' := [_, _, _, _, _]) 1 rfl ?_
          refine jR_p (pc' := 103) 10 K rfl rfl (by omega) (by omega)  rfl ?_
          refine jx (pc' := 105) (L' := [_, _, _, _]) (st' := [_, _, _, _]) 2 rfl ?_
          try simp (disch := omega) only [kz, kzl0, kzl1, kzb, kzs, zI_add, zI_sub, zI_neg, zI_mul, zL_i, zI_l, zL_add, zL_sub, zL_neg]
          refine jcv (pc' := 108) 208 [_, _, _] [] K.ob rfl rfl rfl rfl rfl rfl rfl rfl ?_
          refine m_round K rfl fA hdr ⟨by omega, by omega⟩ (fun _ => rfl) fun h K => jk ?_
          refine ix_qr _ rfl rfl rfl ?_
          exact q _ K.rj
  refine jx (pc' := 1) (L' := [_, _, _, _]) (st' := [_]) 1 rfl ?_
  refine jgf (pc' := 4) K.ob rfl rfl rfl rfl rfl ?_
  refine jx (pc' := 5) (L' := [_, _, _, _]) (st' := [_, _]) 1 rfl ?_
  refine jR_m (pc' := 6) 9 K rfl rfl (by omega) (by omega)  rfl ?_
  refine jx (pc' := 7) (L' := [_, _, _, _]) (st' := [_, _]) 1 rfl ?_
  refine jgf (pc' := 10) K.ob rfl rfl rfl rfl rfl ?_
  refine jx (pc' := 11) (L' := [_, _, _, _]) (st' := [_, _, _]) 1 rfl ?_
  refine jR_m (pc' := 12) 10 K rfl rfl (by omega) (by omega)  rfl ?_
  by_cases e : (R 9).2.2.1 = (R 10).2.2.1
  · skip
    refine jct (pc' := 19) rfl rfl rfl (by rw [bc_eq, decide_eq_true e]) ?_
    refine jx (pc' := 20) (L' := [_, _, _, _]) (st' := [.int (zI 0)]) 1 rfl ?_
    exact t20 false (decide_eq_false (fun z => z e)).symm
  · skip
    refine jcn (pc' := 15) 19 rfl rfl rfl rfl (by rw [bc_eq, decide_eq_false e]) ?_
    refine jx (pc' := 20) (L' := [_, _, _, _]) (st' := [.int (zI 1)]) 2 rfl ?_
    exact t20 true (decide_eq_true e).symm
theorem m_fuse (K : (RI S0 h R V cd dr ra (0) tr mo ng sp sz wr il rs pt rl wo tx ou)) (vA : ValD (R 9)) (vB : ValD (R 10)) (vC : ValD (R 11)) (hdr : dr < 5) (q : ∀ h', (RJ S0 h' (va_up R 8 (fuF dr (R 9) (R 10) (R 11)).1) cd dr ra ((fuF dr (R 9) (R 10) (R 11)).2) tr sz wr tx ou) → Q (.inl none) h') : ix_M 235 [.ref 98, .int (zI 9), .int (zI 10), .int (zI 11)] h Q := by
  have bA := Val.b vA
  have bB := Val.b vB
  have bC := Val.b vC
  have cA := Val.c34 vA
  have cB := Val.c34 vB
  have cC := Val.c34 vC
  have hsA := swp_b vA.2.1
  have hsB := swp_b vB.2.1
  have hsC := swp_b vC.2.1
  have fA := vA.1
  unfold fuF at q
  refine jx (pc' := 1) (L' := [_, _, _, _, _, _, _]) (st' := [_]) 1 rfl ?_
  refine jgf (pc' := 4) K.ob rfl rfl rfl rfl rfl ?_
  refine jx (pc' := 5) (L' := [_, _, _, _, _, _, _]) (st' := [_, _]) 1 rfl ?_
  refine jR_f (pc' := 6) 9 K rfl rfl (by omega) (by omega)  rfl ?_
  refine jx (pc' := 11) (L' := [_, _, _, _, _, _, _]) (st' := [_, _, _]) 4 rfl ?_
  refine jcv (pc' := 14) 219 [_, _] [] K.ob rfl rfl rfl rfl rfl rfl rfl rfl ?_
  refine m_isBad (a := 9) (c := 10) K rfl rfl (by decide) (by decide) (jk ?_)
  by_cases hbad : (((R 9).2.1 = 0 ∧ (R 9).2.2.2.2 = 0) ∧ (R 10).2.1 = 1) ∨ ((R 9).2.1 = 1 ∧ ((R 10).2.1 = 0 ∧ (R 10).2.2.2.2 = 0))
  · rw [if_pos hbad] at q
    refine jin (pc' := 17) 44 rfl rfl rfl rfl (by rw [bz_eq, decide_eq_true hbad]; rfl) ?_
    refine jx (pc' := 21) (L' := [_, _, _, _, _, _, _]) (st' := [.int (zI (-1)), .int (zI (-1)), _, _]) 4 rfl ?_
    refine jcv (pc' := 24) 195 [_, .int (zI (-1)), .int (zI (-1))] [] K.ob rfl rfl rfl rfl rfl rfl rfl rfl ?_
    refine m_nans (a := 11) (B := R 11) (C := R 11) K rfl ⟨by decide, by decide⟩ (Or.inl ⟨rfl, rfl⟩) (Or.inl ⟨rfl, rfl⟩) (fun hn => jk ?_) (fun hn h K => jk ?_)
    · rw [if_neg (by omega)] at q
      refine jin (pc' := 27) 33 rfl rfl rfl rfl (by rfl) ?_
      refine jx (pc' := 30) (L' := [_, _, _, _, _, _, _]) (st' := [_, _]) 2 rfl ?_
      refine jcv (pc' := 33) 201 [_] [] K.ob rfl rfl rfl rfl rfl rfl rfl rfl ?_
      refine m_invalid K rfl fA fun h K => jk ?_
      refine jx (pc' := 35) (L' := [_, _, _, _, _, _, _]) (st' := [_, _]) 2 rfl ?_
      refine jgf (pc' := 38) K.ob rfl rfl rfl rfl rfl ?_
      refine jx (pc' := 40) (L' := [_, _, _, _, _, _, _]) (st' := [_, _]) 2 rfl ?_
      try simp (disch := omega) only [kz, kzl0, kzl1, kzb, kzs, zI_add, zI_sub, zI_neg, zI_mul, zL_i, zI_l, zL_add, zL_sub, zL_neg]
      refine jp_si (pc' := 43) 1 K (zor (0|||1) 1) rfl rfl rfl rfl fun h K => ?_
      refine ix_qr _ rfl rfl rfl ?_
      exact q _ K.rj
    · rw [if_pos (by omega)] at q
      refine jit (pc' := 33) rfl rfl rfl (by rfl) ?_
      have e : (nanS (R 11) (R 11) (R 11)).toNat ||| 1 = 1 := by cases nanS (R 11) (R 11) (R 11) <;> rfl
      have e2 : 0 ||| (nanS (R 11) (R 11) (R 11)).toNat = (nanS (R 11) (R 11) (R 11)).toNat := Nat.zero_or _
      rw [e2] at K
      refine jx (pc' := 35) (L' := [_, _, _, _, _, _, _]) (st' := [_, _]) 2 rfl ?_
      refine jgf (pc' := 38) K.ob rfl rfl rfl rfl rfl ?_
      refine jx (pc' := 40) (L' := [_, _, _, _, _, _, _]) (st' := [_, _]) 2 rfl ?_
      try simp (disch := omega) only [kz, kzl0, kzl1, kzb, kzs, zI_add, zI_sub, zI_neg, zI_mul, zL_i, zI_l, zL_add, zL_sub, zL_neg]
      refine jp_si (pc' := 43) (((nanS (R 11) (R 11) (R 11)).toNat ||| 1)) K (zor _ 1) rfl rfl rfl rfl fun h K => ?_
      rw [e] at K
      refine ix_qr _ rfl rfl rfl ?_
      have e3 : nanP (R 11) (R 11) (R 11) = R 11 := by unfold nanP; split <;> (try split) <;> rfl
      rw [e3] at K
      exact q _ K.rj
  · rw [if_neg hbad] at q
    refine jit (pc' := 44) rfl rfl rfl (by rw [bz_eq, decide_eq_false hbad]; rfl) ?_
    refine jx (pc' := 48) (L' := [_, _, _, _, _, _, _]) (st' := [_, _, _, _]) 4 rfl ?_
    refine jcv (pc' := 51) 195 [_, _, _] [] K.ob rfl rfl rfl rfl rfl rfl rfl rfl ?_
    refine m_nans (a := 9) (B := R 10) (C := R 11) K rfl ⟨by decide, by decide⟩ (Or.inr ⟨10, by decide, by decide, rfl, rfl⟩) (Or.inr ⟨11, by decide, by decide, rfl, rfl⟩) (fun hn => jk ?_) (fun hn h K => jk ?_)
    · rw [if_neg hn] at q
      refine jit (pc' := 55) rfl rfl rfl (by rfl) ?_
      have t75 : ∀ sg : Bool, sg = xo (R 9) (R 10) → ix_E 235 75 [some (.ref 98), some (.int (zI 9)), some (.int (zI 10)), some (.int (zI 11)), some (.int (zI (R 9).1)), none, none] [.int (bI sg)] h Q := by
        intro sg hsg
        rw [← hsg] at q
        have t154 : ∀ gr : Bool, gr = decide ((R 9).2.1 = 1 ∨ (R 10).2.1 = 1) → (gr = true ∨ (R 11).2.1 = 1) → ¬ (gr = true ∧ (R 11).2.1 = 1 ∧ ¬ sg = (R 11).2.2.1) → ix_E 235 154 [some (.ref 98), some (.int (zI 9)), some (.int (zI 10)), some (.int (zI 11)), some (.int (zI (R 9).1)), some (.int (bI sg)), some (.int (bI gr))] [] h Q := by
          intro gr hgr h1 h2
          cases gr
          · have hi := of_decide_eq_false hgr.symm
            rw [if_neg hi, if_pos (h1.elim (fun z => nomatch z) id)] at q
            refine jx (pc' := 159) (L' := [_, _, _, _, _, _, _]) (st' := [_, _, _]) 3 rfl ?_
            refine jit (pc' := 167) rfl rfl rfl (by rfl) ?_
            refine jx (pc' := 168) (L' := [_, _, _, _, _, _, _]) (st' := [_, _, _]) 1 rfl ?_
            refine jgf (pc' := 171) K.ob rfl rfl rfl rfl rfl ?_
            refine jx (pc' := 172) (L' := [_, _, _, _, _, _, _]) (st' := [_, _, _, _]) 1 rfl ?_
            refine jR_m (pc' := 173) 11 K rfl rfl (by omega) (by omega)  rfl ?_
            refine jcv (pc' := 176) 203 [_, _] [] K.ob rfl rfl rfl rfl rfl rfl rfl rfl ?_
            refine m_infinite K rfl fA fun h K => jk ?_
            refine ix_qr _ rfl rfl rfl ?_
            exact q _ K.rj
          · have hi := of_decide_eq_true hgr.symm
            rw [if_pos hi, if_neg (fun z => h2 ⟨rfl, z⟩)] at q
            refine jx (pc' := 159) (L' := [_, _, _, _, _, _, _]) (st' := [_, _, _]) 3 rfl ?_
            refine jin (pc' := 162) 167 rfl rfl rfl rfl (by rfl) ?_
            refine jx (pc' := 173) (L' := [_, _, _, _, _, _, _]) (st' := [_, _, _]) 2 rfl ?_
            refine jcv (pc' := 176) 203 [_, _] [] K.ob rfl rfl rfl rfl rfl rfl rfl rfl ?_
            refine m_infinite K rfl fA fun h K => jk ?_
            refine ix_qr _ rfl rfl rfl ?_
            exact q _ K.rj
        have t119 : ∀ gr : Bool, gr = decide ((R 9).2.1 = 1 ∨ (R 10).2.1 = 1) → (gr = true ∨ (R 11).2.1 = 1) → ix_E 235 119 [some (.ref 98), some (.int (zI 9)), some (.int (zI 10)), some (.int (zI 11)), some (.int (zI (R 9).1)), some (.int (bI sg)), some (.int (bI gr))] [] h Q := by
          intro gr hgr h1
          cases gr
          · skip
            refine jx (pc' := 121) (L' := [_, _, _, _, _, _, _]) (st' := [_]) 1 rfl ?_
            refine jit (pc' := 154) rfl rfl rfl (by rfl) ?_
            exact t154 false hgr h1 (fun z => nomatch z.1)
          · have hi := of_decide_eq_true hgr.symm
            refine jx (pc' := 121) (L' := [_, _, _, _, _, _, _]) (st' := [_]) 1 rfl ?_
            refine jin (pc' := 124) 154 rfl rfl rfl rfl (by rfl) ?_
            refine jx (pc' := 125) (L' := [_, _, _, _, _, _, _]) (st' := [_]) 1 rfl ?_
            refine jgf (pc' := 128) K.ob rfl rfl rfl rfl rfl ?_
            refine jx (pc' := 129) (L' := [_, _, _, _, _, _, _]) (st' := [_, _]) 1 rfl ?_
            refine jR_so (pc' := 130) 11 K rfl rfl (by omega) (by omega)  rfl ?_
            refine jx (pc' := 131) (L' := [_, _, _, _, _, _, _]) (st' := [.int (zI 1), _]) 1 rfl ?_
            by_cases e : (R 11).2.1 = 1
            · have e1 := swp_1.mpr e
              refine jcn (pc' := 134) 154 rfl rfl rfl rfl (by rw [zc_ne ⟨by omega, by omega⟩ ⟨by omega, by omega⟩]; exact decide_eq_false (by omega)) ?_
              refine jx (pc' := 137) (L' := [_, _, _, _, _, _, _]) (st' := [_, _]) 2 rfl ?_
              refine jgf (pc' := 140) K.ob rfl rfl rfl rfl rfl ?_
              refine jx (pc' := 141) (L' := [_, _, _, _, _, _, _]) (st' := [_, _, _]) 1 rfl ?_
              refine jR_m (pc' := 142) 11 K rfl rfl (by omega) (by omega)  rfl ?_
              by_cases e2 : sg = (R 11).2.2.1
              · skip
                refine jct (pc' := 154) rfl rfl rfl (by rw [bc_eq, decide_eq_true e2]) ?_
                exact t154 true hgr h1 (fun z => z.2.2 e2)
              · rw [if_pos hi, if_pos ⟨e, e2⟩] at q
                refine jcn (pc' := 145) 154 rfl rfl rfl rfl (by rw [bc_eq, decide_eq_false e2]) ?_
                refine jx (pc' := 148) (L' := [_, _, _, _, _, _, _]) (st' := [_, _]) 2 rfl ?_
                refine jcv (pc' := 151) 201 [_] [] K.ob rfl rfl rfl rfl rfl rfl rfl rfl ?_
                refine m_invalid K rfl fA fun h K => jk ?_
                refine jx (pc' := 176) (L' := [_, _, _, _, _, _, _]) (st' := []) 1 rfl ?_
                refine ix_qr _ rfl rfl rfl ?_
                exact q _ K.rj
            · have e1 : ¬ swp (R 11).2.1 = 1 := fun z => e (swp_1.mp z)
              refine jct (pc' := 154) rfl rfl rfl (by rw [zc_ne ⟨by omega, by omega⟩ ⟨by omega, by omega⟩]; exact decide_eq_true (by omega)) ?_
              exact t154 true hgr h1 (fun z => e z.2.1)
        have t177 : ∀ gr : Bool, ¬ ((R 9).2.1 = 1 ∨ (R 10).2.1 = 1) → ¬ (R 11).2.1 = 1 → ix_E 235 177 [some (.ref 98), some (.int (zI 9)), some (.int (zI 10)), some (.int (zI 11)), some (.int (zI (R 9).1)), some (.int (bI sg)), some (.int (bI gr))] [] h Q := by
          intro gr h1 h2
          rw [if_neg h1, if_neg h2] at q
          have hP : (R 9).2.2.2.2 * (R 10).2.2.2.2 < 10 ^ 68 := by
            rw [show (68 : Nat) = 34 + 34 from rfl, Nat.pow_add]
            exact Nat.mul_lt_mul_of_le_of_lt (Nat.le_of_lt cA) cB (pp0 34)
          refine jx (pc' := 180) (L' := [_, _, _, _, _, _, _]) (st' := [_, _, _]) 3 rfl ?_
          refine jcv (pc' := 183) 220 [_, _] [] K.ob rfl rfl rfl rfl rfl rfl rfl rfl ?_
          refine m_layProduct (a := 9) (c := 10) K rfl rfl (by decide) (by decide) (12500 + ((R 9).2.2.2.1 + (R 10).2.2.2.1)).toNat (by omega) (by omega) fun h K => jk ?_
          refine jx (pc' := 186) (L' := [_, _, _, _, _, _, _]) (st' := [_, _]) 2 rfl ?_
          refine jp_ng (pc' := 189) sg K (by first | rfl | (congr 1; omega)) rfl rfl rfl rfl fun h K => ?_
          refine jx (pc' := 192) (L' := [_, _, _, _, _, _, _]) (st' := [_, _, _]) 3 rfl ?_
          refine jgf (pc' := 195) K.ob rfl rfl rfl rfl rfl ?_
          refine jx (pc' := 196) (L' := [_, _, _, _, _, _, _]) (st' := [_, _, _, _]) 1 rfl ?_
          refine jR_p (pc' := 197) 11 K rfl rfl (by omega) (by omega)  rfl ?_
          refine jx (pc' := 200) (L' := [_, _, _, _, _, _, _]) (st' := [_, _, _, _, _]) 2 rfl ?_
          refine jgf (pc' := 203) K.ob rfl rfl rfl rfl rfl ?_
          refine jx (pc' := 204) (L' := [_, _, _, _, _, _, _]) (st' := [_, _, _, _, _, _]) 1 rfl ?_
          refine jR_m (pc' := 205) 11 K rfl rfl (by omega) (by omega)  rfl ?_
          have t213 : ∀ le : Bool, le = decide (¬ sg = (R 11).2.2.1) → ix_E 235 213 [some (.ref 98), some (.int (zI 9)), some (.int (zI 10)), some (.int (zI 11)), some (.int (zI (R 9).1)), some (.int (bI sg)), some (.int (bI gr))] [.int (bI le), .int (zI (R 11).2.2.2.1), .int (zI 11), .ref 98] h Q := by
            intro le hle
            have hu2 : (((12500 + (R 11).2.2.2.1).toNat : Nat) : Int) = 12500 + (R 11).2.2.2.1 := by omega
            refine jcv (pc' := 216) 206 [_, _, _] [] K.ob rfl rfl rfl rfl rfl rfl rfl rfl ?_
            refine m_join (r := 11) K rfl (by decide) _ hu2 (by omega) (fun _ => aL5 (pV_b hP (by omega) (by omega)) (pV_b cC (by omega) (by omega))) fun h K => jk ?_
            have t270 : ∀ zs : Bool, zs = (if sg = (R 11).2.2.1 then sg else decide (dr = 3)) → ix_E 235 270 [some (.ref 98), some (.int (zI 9)), some (.int (zI 10)), some (.int (zI 11)), some (.int (zI (R 9).1)), some (.int (bI sg)), some (.int (bI gr))] [.int (bI zs), .int (zI (min ((R 9).2.2.2.1 + (R 10).2.2.2.1) (R 11).2.2.2.1)), .int (zI (R 9).1), .ref 98] h Q := by
              intro zs hzs
              refine jcv (pc' := 273) 208 [_, _, _] [] K.ob rfl rfl rfl rfl rfl rfl rfl rfl ?_
              refine m_round K rfl fA hdr ⟨by omega, by omega⟩ (fun _ => rfl) fun h K => jk ?_
              refine ix_qr _ rfl rfl rfl ?_
              refine q _ ?_
              rw [hle, hzs, Nat.zero_or] at K
              exact K.rj
            refine jx (pc' := 220) (L' := [_, _, _, _, _, _, _]) (st' := [_, _, _]) 3 rfl ?_
            refine jgf (pc' := 223) K.ob rfl rfl rfl rfl rfl ?_
            refine jx (pc' := 224) (L' := [_, _, _, _, _, _, _]) (st' := [_, _, _, _]) 1 rfl ?_
            refine jR_p (pc' := 225) 9 K rfl rfl (by omega) (by omega)  rfl ?_
            refine jx (pc' := 226) (L' := [_, _, _, _, _, _, _]) (st' := [_, _, _, _]) 1 rfl ?_
            refine jgf (pc' := 229) K.ob rfl rfl rfl rfl rfl ?_
            refine jx (pc' := 230) (L' := [_, _, _, _, _, _, _]) (st' := [_, _, _, _, _]) 1 rfl ?_
            refine jR_p (pc' := 231) 10 K rfl rfl (by omega) (by omega)  rfl ?_
            refine jx (pc' := 233) (L' := [_, _, _, _, _, _, _]) (st' := [_, _, _, _]) 2 rfl ?_
            try simp (disch := omega) only [kz, kzl0, kzl1, kzb, kzs, zI_add, zI_sub, zI_neg, zI_mul, zL_i, zI_l, zL_add, zL_sub, zL_neg]
            refine jgf (pc' := 236) K.ob rfl rfl rfl rfl rfl ?_
            refine jx (pc' := 237) (L' := [_, _, _, _, _, _, _]) (st' := [_, _, _, _, _]) 1 rfl ?_
            refine jR_p (pc' := 238) 11 K rfl rfl (by omega) (by omega)  rfl ?_
            refine jcs (pc' := 241) 274 [_, _] [_, _] rfl rfl rfl rfl rfl rfl rfl rfl ?_
            refine c_minI ⟨by omega, by omega⟩ ⟨by omega, by omega⟩ (jk ?_)
            refine jx (pc' := 244) (L' := [_, _, _, _, _, _, _]) (st' := [_, _, _, _, _]) 2 rfl ?_
            refine jgf (pc' := 247) K.ob rfl rfl rfl rfl rfl ?_
            refine jx (pc' := 248) (L' := [_, _, _, _, _, _, _]) (st' := [_, _, _, _, _, _]) 1 rfl ?_
            refine jR_m (pc' := 249) 11 K rfl rfl (by omega) (by omega)  rfl ?_
            by_cases e : sg = (R 11).2.2.1
            · skip
              refine jcn (pc' := 252) 257 rfl rfl rfl rfl (by rw [bc_ne, decide_eq_false (fun z => z e)]) ?_
              refine jx (pc' := 270) (L' := [_, _, _, _, _, _, _]) (st' := [_, _, _, _]) 2 rfl ?_
              exact t270 _ (by rw [if_pos e])
            · skip
              refine jct (pc' := 257) rfl rfl rfl (by rw [bc_ne, decide_eq_true e]) ?_
              refine jx (pc' := 258) (L' := [_, _, _, _, _, _, _]) (st' := [_, _, _, _]) 1 rfl ?_
              refine jgf (pc' := 261) K.ob rfl rfl rfl rfl rfl ?_
              refine jx (pc' := 262) (L' := [_, _, _, _, _, _, _]) (st' := [.int (zI 3), _, _, _, _]) 1 rfl ?_
              by_cases d3 : dr = 3
              · skip
                refine jcn (pc' := 265) 269 rfl rfl rfl rfl (by rw [zc_ne ⟨by omega, by omega⟩ ⟨by omega, by omega⟩]; exact decide_eq_false (by omega)) ?_
                refine jx (pc' := 270) (L' := [_, _, _, _, _, _, _]) (st' := [.int (zI 1), _, _, _]) 2 rfl ?_
                exact t270 true (by rw [if_neg e, decide_eq_true d3])
              · skip
                refine jct (pc' := 269) rfl rfl rfl (by rw [zc_ne ⟨by omega, by omega⟩ ⟨by omega, by omega⟩]; exact decide_eq_true (by omega)) ?_
                refine jx (pc' := 270) (L' := [_, _, _, _, _, _, _]) (st' := [.int (zI 0), _, _, _]) 1 rfl ?_
                exact t270 false (by rw [if_neg e, decide_eq_false d3])
          by_cases e : sg = (R 11).2.2.1
          · skip
            refine jct (pc' := 212) rfl rfl rfl (by rw [bc_eq, decide_eq_true e]) ?_
            refine jx (pc' := 213) (L' := [_, _, _, _, _, _, _]) (st' := [.int (zI 0), _, _, _]) 1 rfl ?_
            exact t213 false (by rw [decide_eq_false (fun z => z e)])
          · skip
            refine jcn (pc' := 208) 212 rfl rfl rfl rfl (by rw [bc_eq, decide_eq_false e]) ?_
            refine jx (pc' := 213) (L' := [_, _, _, _, _, _, _]) (st' := [.int (zI 1), _, _, _]) 2 rfl ?_
            exact t213 true (by rw [decide_eq_true e])
        have t102 : ∀ gr : Bool, gr = decide ((R 9).2.1 = 1 ∨ (R 10).2.1 = 1) → ix_E 235 102 [some (.ref 98), some (.int (zI 9)), some (.int (zI 10)), some (.int (zI 11)), some (.int (zI (R 9).1)), some (.int (bI sg)), none] [.int (bI gr)] h Q := by
          intro gr hgr
          cases gr
          · skip
            refine jx (pc' := 106) (L' := [_, _, _, _, _, _, _]) (st' := [_]) 2 rfl ?_
            refine jin (pc' := 109) 119 rfl rfl rfl rfl (by rfl) ?_
            refine jx (pc' := 110) (L' := [_, _, _, _, _, _, _]) (st' := [_]) 1 rfl ?_
            refine jgf (pc' := 113) K.ob rfl rfl rfl rfl rfl ?_
            refine jx (pc' := 114) (L' := [_, _, _, _, _, _, _]) (st' := [_, _]) 1 rfl ?_
            refine jR_so (pc' := 115) 11 K rfl rfl (by omega) (by omega)  rfl ?_
            refine jx (pc' := 116) (L' := [_, _, _, _, _, _, _]) (st' := [.int (zI 1), _]) 1 rfl ?_
            by_cases e : (R 11).2.1 = 1
            · have e1 := swp_1.mpr e
              refine jcn (pc' := 119) 177 rfl rfl rfl rfl (by rw [zc_ne ⟨by omega, by omega⟩ ⟨by omega, by omega⟩]; exact decide_eq_false (by omega)) ?_
              exact t119 false hgr (Or.inr e)
            · have e1 : ¬ swp (R 11).2.1 = 1 := fun z => e (swp_1.mp z)
              refine jct (pc' := 177) rfl rfl rfl (by rw [zc_ne ⟨by omega, by omega⟩ ⟨by omega, by omega⟩]; exact decide_eq_true (by omega)) ?_
              exact t177 false (of_decide_eq_false hgr.symm) e
          · skip
            refine jx (pc' := 106) (L' := [_, _, _, _, _, _, _]) (st' := [_]) 2 rfl ?_
            refine jit (pc' := 119) rfl rfl rfl (by rfl) ?_
            exact t119 true hgr (Or.inl rfl)
        refine jx (pc' := 78) (L' := [_, _, _, _, _, _, _]) (st' := [_]) 2 rfl ?_
        refine jgf (pc' := 81) K.ob rfl rfl rfl rfl rfl ?_
        refine jx (pc' := 82) (L' := [_, _, _, _, _, _, _]) (st' := [_, _]) 1 rfl ?_
        refine jR_so (pc' := 83) 9 K rfl rfl (by omega) (by omega)  rfl ?_
        refine jx (pc' := 84) (L' := [_, _, _, _, _, _, _]) (st' := [.int (zI 1), _]) 1 rfl ?_
        by_cases e : (R 9).2.1 = 1
        · have e1 := swp_1.mpr e
          refine jct (pc' := 97) rfl rfl rfl (by rw [zc_eq ⟨by omega, by omega⟩ ⟨by omega, by omega⟩]; exact decide_eq_true (by omega)) ?_
          refine jx (pc' := 102) (L' := [_, _, _, _, _, _, _]) (st' := [.int (zI 1)]) 2 rfl ?_
          exact t102 true (decide_eq_true (Or.inl e)).symm
        · have e1 : ¬ swp (R 9).2.1 = 1 := fun z => e (swp_1.mp z)
          refine jcn (pc' := 87) 97 rfl rfl rfl rfl (by rw [zc_eq ⟨by omega, by omega⟩ ⟨by omega, by omega⟩]; exact decide_eq_false (by omega)) ?_
          refine jx (pc' := 88) (L' := [_, _, _, _, _, _, _]) (st' := [_]) 1 rfl ?_
          refine jgf (pc' := 91) K.ob rfl rfl rfl rfl rfl ?_
          refine jx (pc' := 92) (L' := [_, _, _, _, _, _, _]) (st' := [_, _]) 1 rfl ?_
          refine jR_so (pc' := 93) 10 K rfl rfl (by omega) (by omega)  rfl ?_
          refine jx (pc' := 94) (L' := [_, _, _, _, _, _, _]) (st' := [.int (zI 1), _]) 1 rfl ?_
          by_cases e2 : (R 10).2.1 = 1
          · have e3 := swp_1.mpr e2
            refine jcn (pc' := 97) 101 rfl rfl rfl rfl (by rw [zc_ne ⟨by omega, by omega⟩ ⟨by omega, by omega⟩]; exact decide_eq_false (by omega)) ?_
            refine jx (pc' := 102) (L' := [_, _, _, _, _, _, _]) (st' := [.int (zI 1)]) 2 rfl ?_
            exact t102 true (decide_eq_true (Or.inr e2)).symm
          · have e3 : ¬ swp (R 10).2.1 = 1 := fun z => e2 (swp_1.mp z)
            refine jct (pc' := 101) rfl rfl rfl (by rw [zc_ne ⟨by omega, by omega⟩ ⟨by omega, by omega⟩]; exact decide_eq_true (by omega)) ?_
            refine jx (pc' := 102) (L' := [_, _, _, _, _, _, _]) (st' := [.int (zI 0)]) 1 rfl ?_
            exact t102 false (decide_eq_false (fun z => z.elim e e2)).symm
      refine jx (pc' := 56) (L' := [_, _, _, _, _, _, _]) (st' := [_]) 1 rfl ?_
      refine jgf (pc' := 59) K.ob rfl rfl rfl rfl rfl ?_
      refine jx (pc' := 60) (L' := [_, _, _, _, _, _, _]) (st' := [_, _]) 1 rfl ?_
      refine jR_m (pc' := 61) 9 K rfl rfl (by omega) (by omega)  rfl ?_
      refine jx (pc' := 62) (L' := [_, _, _, _, _, _, _]) (st' := [_, _]) 1 rfl ?_
      refine jgf (pc' := 65) K.ob rfl rfl rfl rfl rfl ?_
      refine jx (pc' := 66) (L' := [_, _, _, _, _, _, _]) (st' := [_, _, _]) 1 rfl ?_
      refine jR_m (pc' := 67) 10 K rfl rfl (by omega) (by omega)  rfl ?_
      by_cases e : (R 9).2.2.1 = (R 10).2.2.1
      · skip
        refine jct (pc' := 74) rfl rfl rfl (by rw [bc_eq, decide_eq_true e]) ?_
        refine jx (pc' := 75) (L' := [_, _, _, _, _, _, _]) (st' := [.int (zI 0)]) 1 rfl ?_
        exact t75 false (decide_eq_false (fun z => z e)).symm
      · skip
        refine jcn (pc' := 70) 74 rfl rfl rfl rfl (by rw [bc_eq, decide_eq_false e]) ?_
        refine jx (pc' := 75) (L' := [_, _, _, _, _, _, _]) (st' := [.int (zI 1)]) 2 rfl ?_
        exact t75 true (decide_eq_true e).symm
    · rw [if_pos hn] at q
      refine jin (pc' := 54) 55 rfl rfl rfl rfl (by rfl) ?_
      refine ix_qr _ rfl rfl rfl ?_
      rw [Nat.zero_or] at K
      exact q _ K.rj
end REF
