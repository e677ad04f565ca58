/-! ===== the reference: write ===== -/
section REF
variable {h : ix_H} {Q : ix_O → ix_H → Prop} {S0 : Nat → AC} {R F : Nat → Dm} {V cd dr ra si tr : Nat} {mo ng : Bool} {sp sz wr : Nat} {il : Bool} {rs pt rl wo tx ou : Nat → Nat} {j x y z w a0 b0 k0 c0 : Int} {r f s m a c k n : Nat} {b t : Bool} {l : List Nat}
theorem m_write (K : (RK S0 h F cd dr ra tr sz wr tx ou)) (hv : ∀ i, i < 9 → ValD (F i)) (hx : zr x) (q0 : ¬ (0 ≤ x ∧ x ≤ 8) → ∀ h', (RK S0 h' F (1) dr ra tr sz wr tx ou) → Q (.inl (some (.int (zI 0)))) h') (q1 : (0 ≤ x ∧ x ≤ 8) → ∀ h' wr' ou', Ot wr' ou' (wtR (F x.toNat)) → (RK S0 h' F (0) dr ra tr sz (wr') tx (ou')) → Q (.inl (some (.int (zI ((wtR (F x.toNat)).length : Nat))))) h') : ix_M 265 [.ref 98, .int (zI x)] h Q := by
  obtain ⟨R, si, hR, V, mo, ng, sp, il, rs, pt, rl, wo, K⟩ := K
  have t21 : (0 ≤ x ∧ x ≤ 8) → ∀ h1, (RI S0 h1 R V (0) dr ra si tr mo ng sp sz wr il rs pt rl wo tx ou) → ix_E 265 21 [some (.ref 98), some (.int (zI x))] [] h1 Q := by
    intro hc h K
    have q1 := q1 hc
    have hxn : x = ((x.toNat : Nat) : Int) := by omega
    have vx := hv x.toNat (by omega)
    rw [← hR x.toNat (by omega)] at q1 vx
    generalize hxm : x.toNat = xm at *
    have hxm9 : xm < 9 := by omega
    have hwl := wtR_b vx
    have hs4 := swp_b vx.2.1
    have s4 := vx.2.1
    have dx := dgs_le (Val.c34 vx)
    have t113 : ∀ (h1 : ix_H) (wr' : Nat) (ou' : Nat → Nat), Ot wr' ou' (wtR (R xm)) → (RI S0 h1 R V (0) dr ra si tr mo ng sp sz (wr') il rs pt rl wo tx (ou')) → ix_E 265 113 [some (.ref 98), some (.int (zI x))] [] h1 Q := by
      intro h wr' ou' O K
      have hw := O.1
      refine jx (pc' := 114) (L' := [_, _]) (st' := [_]) 1 rfl ?_
      refine jgf (pc' := 117) K.ob rfl rfl rfl rfl rfl ?_
      refine jri rfl rfl ?_
      rw [hw]
      rw [hw] at K O
      exact q1 _ _ _ O ⟨R, _, hR, K.rj⟩
    unfold wtR at hwl t113
    -- behind the sign
    have t41 : ∀ (h1 : ix_H) (l1 : List Nat) (wr' : Nat) (ou' : Nat → Nat), l1 = (if (R xm).2.2.1 then [45] else []) → Ot wr' ou' l1 → (RI S0 h1 R V (0) dr ra si tr mo ng sp sz (wr') il rs pt rl wo tx (ou')) → ix_E 265 41 [some (.ref 98), some (.int (zI x))] [] h1 Q := by
      intro h l1 wr' ou' hl1 O K
      rw [← hl1] at hwl t113
      refine jx (pc' := 42) (L' := [_, _]) (st' := [_]) 1 rfl ?_
      refine jgf (pc' := 45) K.ob rfl rfl rfl rfl rfl ?_
      refine jx (pc' := 46) (L' := [_, _]) (st' := [_, _]) 1 rfl ?_
      refine jR_so (pc' := 47) xm K rfl rfl (by omega) (by omega)  rfl ?_
      refine jx (pc' := 48) (L' := [_, _]) (st' := [.int (zI 1), _]) 1 rfl ?_
      by_cases e1 : (R xm).2.1 = 1
      · have e2 := swp_1.mpr e1
        rw [if_pos e1] at hwl t113
        rw [List.length_append] at hwl
        refine jcn (pc' := 51) 61 rfl rfl rfl rfl (by rw [zc_ne ⟨by omega, by omega⟩ ⟨by omega, by omega⟩]; exact decide_eq_false (by omega)) ?_
        refine jx (pc' := 55) (L' := [_, _]) (st' := [_, _]) 2 rfl ?_
        try simp (disch := omega) only [kM5291279215216915577, kz, kzl0, kzl1, kzb, kzs, zI_add, zI_sub, zI_neg, zI_mul, zL_i, zI_l, zL_add, zL_sub, zL_neg]
        refine jcv (pc' := 58) 267 [_] [] K.ob rfl rfl rfl rfl rfl rfl rfl rfl ?_
        refine m_addWord (r := 4) K O (by decide) hwl by_4 zz_4 fun h wr2 ou2 O2 K => jk ?_
        refine jx (pc' := 113) (L' := [_, _]) (st' := []) 1 rfl ?_
        exact t113 h wr2 ou2 O2 K
      · have e2 : ¬ swp (R xm).2.1 = 1 := fun n => e1 (swp_1.mp n)
        rw [if_neg e1] at hwl t113
        refine jct (pc' := 61) rfl rfl rfl (by rw [zc_ne ⟨by omega, by omega⟩ ⟨by omega, by omega⟩]; exact decide_eq_true (by omega)) ?_
        refine jx (pc' := 63) (L' := [_, _]) (st' := [_, _]) 2 rfl ?_
        refine jcv (pc' := 66) 194 [_] [] K.ob rfl rfl rfl rfl rfl rfl rfl rfl ?_
        refine m_isNaN K hxn (by omega) (jk ?_)
        by_cases e3 : 2 ≤ (R xm).2.1
        · rw [if_pos e3] at hwl t113
          rw [List.length_append, List.length_append, dl_l] at hwl
          refine jin (pc' := 69) 108 rfl rfl rfl rfl (by rw [bz_eq, decide_eq_true e3]; rfl) ?_
          have t92 : ∀ (h1 : ix_H) (wr2 : Nat) (ou2 : Nat → Nat), Ot wr2 ou2 (l1 ++ (if (R xm).2.1 = 2 then sc 5 else sc 6)) → (RI S0 h1 R V (0) dr ra si tr mo ng sp sz (wr2) il rs pt rl wo tx (ou2)) → ix_E 265 92 [some (.ref 98), some (.int (zI x))] [] h1 Q := by
            intro h wr2 ou2 O2 K
            refine jx (pc' := 96) (L' := [_, _]) (st' := [_, _, _, _]) 4 rfl ?_
            refine jcv (pc' := 99) 178 [_] [_, _] K.ob rfl rfl rfl rfl rfl rfl rfl rfl ?_
            refine m_many K hxn (by omega) fun _ => jk ?_
            refine jx (pc' := 102) (L' := [_, _]) (st' := [.int (zI 0), _, _, _]) 3 rfl ?_
            try simp (disch := omega) only [kz, kzl0, kzl1, kzb, kzs, zI_add, zI_sub, zI_neg, zI_mul, zL_i, zI_l, zL_add, zL_sub, zL_neg]
            refine jcv (pc' := 105) 268 [_, _, .int (zI 0)] [] K.ob rfl rfl rfl rfl rfl rfl rfl rfl ?_
            refine m_addDigits (n := dgs (R xm).2.2.2.2) K O2 hxn (by omega) (by omega) (by omega) (by rw [List.length_append]; omega) fun h wr3 ou3 O3 K => jk ?_
            rw [List.append_assoc] at O3
            refine jx (pc' := 113) (L' := [_, _]) (st' := []) 1 rfl ?_
            exact t113 h wr3 ou3 O3 K
          refine jx (pc' := 71) (L' := [_, _]) (st' := [_, _]) 2 rfl ?_
          refine jgf (pc' := 74) K.ob rfl rfl rfl rfl rfl ?_
          refine jx (pc' := 75) (L' := [_, _]) (st' := [_, _, _]) 1 rfl ?_
          refine jR_so (pc' := 76) xm K rfl rfl (by omega) (by omega)  rfl ?_
          refine jx (pc' := 77) (L' := [_, _]) (st' := [.int (zI 2), _, _]) 1 rfl ?_
          by_cases e4 : (R xm).2.1 = 3
          · have e5 := swp_2.mpr e4
            have e6 : ¬ (R xm).2.1 = 2 := by omega
            rw [if_neg e6] at hwl t92
            have hwl' : l1.length + (sc 6).length ≤ 64 := by omega
            refine jcn (pc' := 80) 86 rfl rfl rfl rfl (by rw [zc_ne ⟨by omega, by omega⟩ ⟨by omega, by omega⟩]; exact decide_eq_false (by omega)) ?_
            refine jx (pc' := 89) (L' := [_, _]) (st' := [_, _]) 2 rfl ?_
            try simp (disch := omega) only [kM5136718, kz, kzl0, kzl1, kzb, kzs, zI_add, zI_sub, zI_neg, zI_mul, zL_i, zI_l, zL_add, zL_sub, zL_neg]
            try simp only [kM5136718]
            refine jcv (pc' := 92) 267 [_] [] K.ob rfl rfl rfl rfl rfl rfl rfl rfl ?_
            refine m_addWord (r := 6) K O (by decide) hwl' by_6 zz_6 fun h wr2 ou2 O2 K => jk ?_
            exact t92 h wr2 ou2 O2 K
          · have e5 : ¬ swp (R xm).2.1 = 2 := fun n => e4 (swp_2.mp n)
            have e6 : (R xm).2.1 = 2 := by omega
            rw [if_pos e6] at hwl t92
            have hwl' : l1.length + (sc 5).length ≤ 64 := by omega
            refine jct (pc' := 86) rfl rfl rfl (by rw [zc_ne ⟨by omega, by omega⟩ ⟨by omega, by omega⟩]; exact decide_eq_true (by omega)) ?_
            refine jx (pc' := 89) (L' := [_, _]) (st' := [_, _]) 1 rfl ?_
            try simp (disch := omega) only [kM1934516558, kz, kzl0, kzl1, kzb, kzs, zI_add, zI_sub, zI_neg, zI_mul, zL_i, zI_l, zL_add, zL_sub, zL_neg]
            try simp only [kM1934516558]
            refine jcv (pc' := 92) 267 [_] [] K.ob rfl rfl rfl rfl rfl rfl rfl rfl ?_
            refine m_addWord (r := 5) K O (by decide) hwl' by_5 zz_5 fun h wr2 ou2 O2 K => jk ?_
            exact t92 h wr2 ou2 O2 K
        · rw [if_neg e3] at hwl t113
          rw [List.length_append] at hwl
          refine jit (pc' := 108) rfl rfl rfl (by rw [bz_eq, decide_eq_false e3]; rfl) ?_
          refine jx (pc' := 110) (L' := [_, _]) (st' := [_, _]) 2 rfl ?_
          refine jcv (pc' := 113) 269 [_] [] K.ob rfl rfl rfl rfl rfl rfl rfl rfl ?_
          refine m_writeNumber K O hxn (by omega) vx hwl fun h wr2 ou2 O2 K => jk ?_
          exact t113 h wr2 ou2 O2 K
    have O0 : Ot 0 ou [] := ⟨rfl, fun j hj => by simp at hj⟩
    refine jx (pc' := 23) (L' := [_, _]) (st' := [.int (zI 0), _]) 2 rfl ?_
    refine jp_wr (pc' := 26) 0 K (by first | rfl | (congr 1; omega)) rfl rfl rfl rfl fun h K => ?_
    refine jx (pc' := 27) (L' := [_, _]) (st' := [_]) 1 rfl ?_
    refine jgf (pc' := 30) K.ob rfl rfl rfl rfl rfl ?_
    refine jx (pc' := 31) (L' := [_, _]) (st' := [_, _]) 1 rfl ?_
    refine jR_m (pc' := 32) xm K rfl rfl (by omega) (by omega)  rfl ?_
    cases hn : (R xm).2.2.1
    · skip
      refine jit (pc' := 41) rfl rfl rfl (by rfl) ?_
      exact t41 h [] 0 ou (by rw [hn]; rfl) O0 K
    · skip
      refine jin (pc' := 35) 41 rfl rfl rfl rfl (by rfl) ?_
      refine jx (pc' := 38) (L' := [_, _]) (st' := [.int (zI 45), _]) 2 rfl ?_
      refine jcv (pc' := 41) 266 [.int (zI 45)] [] K.ob rfl rfl rfl rfl rfl rfl rfl rfl ?_
      refine m_print (c := 45) K O0 (by decide) rfl fun h wr2 ou2 O2 K => jk ?_
      exact t41 h [45] wr2 ou2 (by rw [hn]; rfl) O2 K
  have t13 : ∀ bd : Bool, bd = decide (¬ (0 ≤ x ∧ x ≤ 8)) → ix_E 265 13 [some (.ref 98), some (.int (zI x))] [.int (bI bd), .ref 98] h Q := by
    intro bd hbd
    refine jcv (pc' := 16) 168 [_] [] K.ob rfl rfl rfl rfl rfl rfl rfl rfl ?_
    refine m_fails K fun h K => jk ?_
    cases bd
    · have hc : 0 ≤ x ∧ x ≤ 8 := Classical.not_not.mp (of_decide_eq_false hbd.symm)
      refine jit (pc' := 21) rfl rfl rfl (by rfl) ?_
      exact t21 hc h K
    · have hc := of_decide_eq_true hbd.symm
      refine jin (pc' := 19) 21 rfl rfl rfl rfl (by rfl) ?_
      refine jx (pc' := 20) (L' := [_, _]) (st' := [.int (zI 0)]) 1 rfl ?_
      refine jri rfl rfl ?_
      exact q0 hc _ ⟨R, si, hR, K.rj⟩
  refine jx (pc' := 2) (L' := [_, _]) (st' := [_, _]) 2 rfl ?_
  refine jcs (pc' := 5) 181 [_] [_] rfl rfl rfl rfl rfl rfl rfl rfl ?_
  refine m_isSource hx (jk ?_)
  by_cases h2 : 0 ≤ x ∧ x ≤ 8
  · skip
    refine jit (pc' := 12) rfl rfl rfl (by rw [bz_ne, decide_eq_true h2]) ?_
    refine jx (pc' := 13) (L' := [_, _]) (st' := [.int (zI 0), _]) 1 rfl ?_
    exact t13 false (decide_eq_false (fun n => n h2)).symm
  · skip
    refine jin (pc' := 8) 12 rfl rfl rfl rfl (by rw [bz_ne, decide_eq_false h2]) ?_
    refine jx (pc' := 13) (L' := [_, _]) (st' := [.int (zI 1), _]) 2 rfl ?_
    exact t13 true (decide_eq_true h2).symm
end REF
