/-! ===== the reference: orders ===== -/
theorem atD_n (c k : Nat) : atD c (k : Int) = c / 10 ^ k % 10 := by
  unfold atD
  rw [if_neg (by omega)]
  rfl
noncomputable def chF (w : Nat) (A B : Dm) : Dm × Nat := if 2 ≤ A.2.1 ∨ 2 ≤ B.2.1 then pbN A B else (pkD w A B, 0)
noncomputable def fzD (A B : Dm) : Int := fzo A.2.1 A.2.2.2.1 A.2.2.2.2 B.2.1 B.2.2.2.1 B.2.2.2.2
section REF
variable {h : ix_H} {Q : ix_O → ix_H → Prop} {S0 : Nat → AC} {R : Nat → Dm} {V cd dr ra si tr : Nat} {mo ng : Bool} {sp sz wr : Nat} {il : Bool} {rs pt rl wo tx ou : Nat → Nat} {j x a0 b0 : Int} {r f s m a c : Nat} {b t : Bool}
theorem m_orderSizes (K : (RI S0 h R V cd dr ra si tr mo ng sp sz wr il rs pt rl wo tx ou)) (ha0 : a0 = (a : Int)) (hb0 : b0 = (c : Int)) (ha : a < 12) (hc : c < 12) (hA : (R a).2.1 < 2) (hB : (R c).2.1 < 2) (q : Q (.inl (some (.int (zI (szD (R a) (R c)))))) h) : ix_M 196 [.ref 98, .int (zI a0), .int (zI b0)] h Q := by
  subst ha0
  subst hb0
  have rA := K.rv ha
  have rB := K.rv hc
  have hsA := swp_b rA.2.1
  have hsB := swp_b rB.2.1
  have dA := dgs_le rA.2.2.2.2
  have dB := dgs_le rB.2.2.2.2
  have bA := rA.2.2
  have bB := rB.2.2
  unfold szD szs at q
  have t20 : (R a).2.1 = 1 ∨ (R c).2.1 = 1 → ix_E 196 20 [some (.ref 98), some (.int (zI (a : Int))), some (.int (zI (c : Int))), none, none, none] [] h Q := by
    intro hi
    rw [if_pos hi] at q
    refine jx (pc' := 21) (L' := [_, _, _, _, _, _]) (st' := [_]) 1 rfl ?_
    refine jgf (pc' := 24) K.ob rfl rfl rfl rfl rfl ?_
    refine jx (pc' := 25) (L' := [_, _, _, _, _, _]) (st' := [_, _]) 1 rfl ?_
    refine jR_so (pc' := 26) a K rfl rfl (by omega) (by omega)  rfl ?_
    refine jx (pc' := 27) (L' := [_, _, _, _, _, _]) (st' := [_, _]) 1 rfl ?_
    refine jgf (pc' := 30) K.ob rfl rfl rfl rfl rfl ?_
    refine jx (pc' := 31) (L' := [_, _, _, _, _, _]) (st' := [_, _, _]) 1 rfl ?_
    refine jR_so (pc' := 32) c K rfl rfl (by omega) (by omega)  rfl ?_
    by_cases e : (R a).2.1 = (R c).2.1
    · have e1 := congrArg swp e
      rw [cmp_e e] at q
      refine jcn (pc' := 35) 39 rfl rfl rfl rfl (by rw [zc_ne ⟨by omega, by omega⟩ ⟨by omega, by omega⟩]; exact decide_eq_false (by omega)) ?_
      refine jx (pc' := 54) (L' := [_, _, _, _, _, _]) (st' := [.int (zI 0)]) 2 rfl ?_
      refine jri rfl rfl ?_
      exact q
    · have e1 : ¬ swp (R a).2.1 = swp (R c).2.1 := fun z => e (swp_i.mp z)
      refine jct (pc' := 39) rfl rfl rfl (by rw [zc_ne ⟨by omega, by omega⟩ ⟨by omega, by omega⟩]; exact decide_eq_true (by omega)) ?_
      refine jx (pc' := 40) (L' := [_, _, _, _, _, _]) (st' := [_]) 1 rfl ?_
      refine jgf (pc' := 43) K.ob rfl rfl rfl rfl rfl ?_
      refine jx (pc' := 44) (L' := [_, _, _, _, _, _]) (st' := [_, _]) 1 rfl ?_
      refine jR_so (pc' := 45) a K rfl rfl (by omega) (by omega)  rfl ?_
      refine jx (pc' := 46) (L' := [_, _, _, _, _, _]) (st' := [.int (zI 1), _]) 1 rfl ?_
      by_cases e2 : (R a).2.1 = 1
      · have e3 := swp_1.mpr e2
        rw [cmp_g (by omega)] at q
        refine jcn (pc' := 49) 53 rfl rfl rfl rfl (by rw [zc_ne ⟨by omega, by omega⟩ ⟨by omega, by omega⟩]; exact decide_eq_false (by omega)) ?_
        refine jx (pc' := 54) (L' := [_, _, _, _, _, _]) (st' := [.int (zI 1)]) 2 rfl ?_
        refine jri rfl rfl ?_
        exact q
      · have e3 : ¬ swp (R a).2.1 = 1 := fun z => e2 (swp_1.mp z)
        rw [cmp_l (by omega)] at q
        refine jct (pc' := 53) rfl rfl rfl (by rw [zc_ne ⟨by omega, by omega⟩ ⟨by omega, by omega⟩]; exact decide_eq_true (by omega)) ?_
        refine jx (pc' := 54) (L' := [_, _, _, _, _, _]) (st' := [.int (zI (-1))]) 1 rfl ?_
        refine jri rfl rfl ?_
        exact q
  have t97 : ¬ ((R a).2.1 = 1 ∨ (R c).2.1 = 1) → ¬ ((R a).2.2.2.2 = 0 ∨ (R c).2.2.2.2 = 0) → ix_E 196 97 [some (.ref 98), some (.int (zI (a : Int))), some (.int (zI (c : Int))), none, none, none] [] h Q := by
    intro hi hz
    rw [if_neg hi, if_neg hz] at q
    refine jx (pc' := 98) (L' := [_, _, _, _, _, _]) (st' := [_]) 1 rfl ?_
    refine jgf (pc' := 101) K.ob rfl rfl rfl rfl rfl ?_
    refine jx (pc' := 102) (L' := [_, _, _, _, _, _]) (st' := [_, _]) 1 rfl ?_
    refine jR_p (pc' := 103) a K rfl rfl (by omega) (by omega)  rfl ?_
    refine jx (pc' := 105) (L' := [_, _, _, _, _, _]) (st' := [_, _, _]) 2 rfl ?_
    refine jcv (pc' := 108) 178 [_] [_] K.ob rfl rfl rfl rfl rfl rfl rfl rfl ?_
    refine m_many K rfl ha fun _ => jk ?_
    refine jx (pc' := 110) (L' := [_, _, _, _, _, _]) (st' := [_, _]) 2 rfl ?_
    try simp (disch := omega) only [kz, kzl0, kzl1, kzb, kzs, zI_add, zI_sub, zI_neg, zI_mul, zL_i, zI_l, zL_add, zL_sub, zL_neg]
    refine jgf (pc' := 113) K.ob rfl rfl rfl rfl rfl ?_
    refine jx (pc' := 114) (L' := [_, _, _, _, _, _]) (st' := [_, _, _]) 1 rfl ?_
    refine jR_p (pc' := 115) c K rfl rfl (by omega) (by omega)  rfl ?_
    refine jx (pc' := 118) (L' := [_, _, _, _, _, _]) (st' := [_, _, _]) 3 rfl ?_
    try simp (disch := omega) only [kz, kzl0, kzl1, kzb, kzs, zI_add, zI_sub, zI_neg, zI_mul, zL_i, zI_l, zL_add, zL_sub, zL_neg]
    refine jcv (pc' := 121) 178 [_] [_] K.ob rfl rfl rfl rfl rfl rfl rfl rfl ?_
    refine m_many K rfl hc fun _ => jk ?_
    refine jx (pc' := 124) (L' := [_, _, _, _, _, _]) (st' := [_]) 3 rfl ?_
    try simp (disch := omega) only [kz, kzl0, kzl1, kzb, kzs, zI_add, zI_sub, zI_neg, zI_mul, zL_i, zI_l, zL_add, zL_sub, zL_neg]
    by_cases e : (R a).2.2.2.1 + dgs (R a).2.2.2.2 = (R c).2.2.2.1 + dgs (R c).2.2.2.2
    · rw [if_neg (fun z => z e), szs_t e dA dB] at q
      refine jit (pc' := 137) rfl rfl rfl (by rw [zz_eq ⟨by omega, by omega⟩]; exact decide_eq_true (by omega)) ?_
      have hX := tpD_b dA
      have hY := tpD_b dB
      have loop : ∀ n k : Nat, k + n = 41 → 1 ≤ k → (∀ i, 40 < i + k → i < 40 → tpD (R a).2.2.2.2 (dgs (R a).2.2.2.2) / 10 ^ i % 10 = tpD (R c).2.2.2.2 (dgs (R c).2.2.2.2) / 10 ^ i % 10) → ∀ (l3 : Int) (l5 : Option Value), ix_E 196 140 [some (.ref 98), some (.int (zI (a : Int))), some (.int (zI (c : Int))), some (.int (zI l3)), some (.int (zI (k : Int))), l5] [] h Q := by
        intro n
        induction n with
        | zero =>
          intro k hk h1 he l3 l5
          have eq := dg_eq hX hY fun i hi => he i (by omega) hi
          rw [cmp_e eq] at q
          refine jx (pc' := 144) (L' := [_, _, _, _, _, _]) (st' := [.int (zI 40), _]) 2 rfl ?_
          refine jct (pc' := 198) rfl rfl rfl (by rw [zc_gt ⟨by omega, by omega⟩ ⟨by omega, by omega⟩]; exact decide_eq_true (by omega)) ?_
          refine jx (pc' := 199) (L' := [_, _, _, _, _, _]) (st' := [.int (zI 0)]) 1 rfl ?_
          refine jri rfl rfl ?_
          exact q
        | succ n ih =>
          intro k hk h1 he l3 l5
          have xa := tpD_d (c := (R a).2.2.2.2) (k := k) h1 (by omega) dA
          have xb := tpD_d (c := (R c).2.2.2.2) (k := k) h1 (by omega) dB
          have ba := atD_b (R a).2.2.2.2 ((dgs (R a).2.2.2.2 : Int) - k)
          have bb := atD_b (R c).2.2.2.2 ((dgs (R c).2.2.2.2 : Int) - k)
          refine jx (pc' := 144) (L' := [_, _, _, _, _, _]) (st' := [.int (zI 40), _]) 2 rfl ?_
          refine jcn (pc' := 147) 198 rfl rfl rfl rfl (by rw [zc_gt ⟨by omega, by omega⟩ ⟨by omega, by omega⟩]; exact decide_eq_false (by omega)) ?_
          refine jx (pc' := 151) (L' := [_, _, _, _, _, _]) (st' := [_, _, _, _]) 4 rfl ?_
          refine jcv (pc' := 154) 178 [_] [_, _] K.ob rfl rfl rfl rfl rfl rfl rfl rfl ?_
          refine m_many K rfl ha fun _ => jk ?_
          refine jx (pc' := 157) (L' := [_, _, _, _, _, _]) (st' := [_, _, _]) 2 rfl ?_
          try simp (disch := omega) only [kz, kzl0, kzl1, kzb, kzs, zI_add, zI_sub, zI_neg, zI_mul, zL_i, zI_l, zL_add, zL_sub, zL_neg]
          refine jcv (pc' := 160) 198 [_, _] [] K.ob rfl rfl rfl rfl rfl rfl rfl rfl ?_
          refine m_at K rfl ha ⟨by omega, by omega⟩ (jk ?_)
          refine jx (pc' := 164) (L' := [_, _, _, _, _, _]) (st' := [_, _, _, _, _]) 4 rfl ?_
          refine jcv (pc' := 167) 178 [_] [_, _, _] K.ob rfl rfl rfl rfl rfl rfl rfl rfl ?_
          refine m_many K rfl hc fun _ => jk ?_
          refine jx (pc' := 170) (L' := [_, _, _, _, _, _]) (st' := [_, _, _, _]) 2 rfl ?_
          try simp (disch := omega) only [kz, kzl0, kzl1, kzb, kzs, zI_add, zI_sub, zI_neg, zI_mul, zL_i, zI_l, zL_add, zL_sub, zL_neg]
          refine jcv (pc' := 173) 198 [_, _] [_] K.ob rfl rfl rfl rfl rfl rfl rfl rfl ?_
          refine m_at K rfl hc ⟨by omega, by omega⟩ (jk ?_)
          generalize atD (R a).2.2.2.2 ((dgs (R a).2.2.2.2 : Int) - k) = x at *
          generalize atD (R c).2.2.2.2 ((dgs (R c).2.2.2.2 : Int) - k) = y at *
          refine jx (pc' := 178) (L' := [_, _, _, _, _, _]) (st' := [_]) 3 rfl ?_
          try simp (disch := omega) only [kz, kzl0, kzl1, kzb, kzs, zI_add, zI_sub, zI_neg, zI_mul, zL_i, zI_l, zL_add, zL_sub, zL_neg]
          by_cases h0 : x = y
          · skip
            refine jit (pc' := 192) rfl rfl rfl (by rw [zz_eq ⟨by omega, by omega⟩]; exact decide_eq_true (by omega)) ?_
            refine jx (pc' := 140) (L' := [_, _, _, _, _, _]) (st' := []) 2 rfl ?_
            try simp (disch := omega) only [kz, kzl0, kzl1, kzb, kzs, zI_add, zI_sub, zI_neg, zI_mul, zL_i, zI_l, zL_add, zL_sub, zL_neg]
            rw [show (k : Int) + 1 = ((k + 1 : Nat) : Int) by omega]
            refine ih (k + 1) (by omega) (by omega) (fun i h1 h2 => ?_) _ _
            by_cases h3 : i = 40 - k
            · rw [h3, xa, xb, h0]
            · exact he i (by omega) h2
          · skip
            refine jin (pc' := 181) 192 rfl rfl rfl rfl (by rw [zz_eq ⟨by omega, by omega⟩]; exact decide_eq_false (by omega)) ?_
            refine jx (pc' := 183) (L' := [_, _, _, _, _, _]) (st' := [_]) 1 rfl ?_
            by_cases h2 : x < y
            · rw [cmp_l (dif_c (k := 40 - k) hX hY (fun i a b => he i (by omega) b) (by rw [xa, xb]; exact h2))] at q
              refine jin (pc' := 186) 190 rfl rfl rfl rfl (by rw [zz_ge ⟨by omega, by omega⟩]; exact decide_eq_false (by omega)) ?_
              refine jx (pc' := 191) (L' := [_, _, _, _, _, _]) (st' := [.int (zI (-1))]) 2 rfl ?_
              refine jri rfl rfl ?_
              exact q
            · rw [cmp_g (dif_c (k := 40 - k) hY hX (fun i a b => (he i (by omega) b).symm) (by rw [xa, xb]; omega))] at q
              refine jit (pc' := 190) rfl rfl rfl (by rw [zz_ge ⟨by omega, by omega⟩]; exact decide_eq_true (by omega)) ?_
              refine jx (pc' := 191) (L' := [_, _, _, _, _, _]) (st' := [.int (zI 1)]) 1 rfl ?_
              refine jri rfl rfl ?_
              exact q
      refine jx (pc' := 140) (L' := [_, _, _, _, _, _]) (st' := []) 2 rfl ?_
      try simp (disch := omega) only [kz, kzl0, kzl1, kzb, kzs, zI_add, zI_sub, zI_neg, zI_mul, zL_i, zI_l, zL_add, zL_sub, zL_neg]
      exact loop 40 1 (by omega) (by omega) (fun i h1 h2 => by omega) _ _
    · rw [if_pos e] at q
      refine jin (pc' := 127) 137 rfl rfl rfl rfl (by rw [zz_eq ⟨by omega, by omega⟩]; exact decide_eq_false (by omega)) ?_
      refine jx (pc' := 128) (L' := [_, _, _, _, _, _]) (st' := [_]) 1 rfl ?_
      by_cases h2 : (R a).2.2.2.1 + dgs (R a).2.2.2.2 < (R c).2.2.2.1 + dgs (R c).2.2.2.2
      · rw [if_pos h2] at q
        refine jin (pc' := 131) 135 rfl rfl rfl rfl (by rw [zz_ge ⟨by omega, by omega⟩]; exact decide_eq_false (by omega)) ?_
        refine jx (pc' := 136) (L' := [_, _, _, _, _, _]) (st' := [.int (zI (-1))]) 2 rfl ?_
        refine jri rfl rfl ?_
        exact q
      · rw [if_neg h2] at q
        refine jit (pc' := 135) rfl rfl rfl (by rw [zz_ge ⟨by omega, by omega⟩]; exact decide_eq_true (by omega)) ?_
        refine jx (pc' := 136) (L' := [_, _, _, _, _, _]) (st' := [.int (zI 1)]) 1 rfl ?_
        refine jri rfl rfl ?_
        exact q
  have t71 : ¬ ((R a).2.1 = 1 ∨ (R c).2.1 = 1) → ((R a).2.2.2.2 = 0 ∨ (R c).2.2.2.2 = 0) → ix_E 196 71 [some (.ref 98), some (.int (zI (a : Int))), some (.int (zI (c : Int))), none, none, none] [] h Q := by
    intro hi hz
    rw [if_neg hi, if_pos hz] at q
    have sA0 : (R a).2.1 = 0 := by omega
    have sB0 : (R c).2.1 = 0 := by omega
    refine jx (pc' := 73) (L' := [_, _, _, _, _, _]) (st' := [_, _]) 2 rfl ?_
    refine jcv (pc' := 76) 197 [_] [] K.ob rfl rfl rfl rfl rfl rfl rfl rfl ?_
    refine m_isZero K rfl ha (jk ?_)
    by_cases h0 : (R a).2.2.2.2 = 0
    · rw [if_pos h0] at q
      refine jin (pc' := 79) 95 rfl rfl rfl rfl (by rw [bz_eq, decide_eq_true ⟨sA0, h0⟩]; rfl) ?_
      refine jx (pc' := 81) (L' := [_, _, _, _, _, _]) (st' := [_, _]) 2 rfl ?_
      refine jcv (pc' := 84) 197 [_] [] K.ob rfl rfl rfl rfl rfl rfl rfl rfl ?_
      refine m_isZero K rfl hc (jk ?_)
      by_cases h1 : (R c).2.2.2.2 = 0
      · rw [if_pos h1] at q
        refine jin (pc' := 87) 91 rfl rfl rfl rfl (by rw [bz_eq, decide_eq_true ⟨sB0, h1⟩]; rfl) ?_
        refine jx (pc' := 96) (L' := [_, _, _, _, _, _]) (st' := [.int (zI 0)]) 2 rfl ?_
        refine jri rfl rfl ?_
        exact q
      · rw [if_neg h1] at q
        refine jit (pc' := 91) rfl rfl rfl (by rw [bz_eq, decide_eq_false (fun z => h1 z.2)]; rfl) ?_
        refine jx (pc' := 96) (L' := [_, _, _, _, _, _]) (st' := [.int (zI (-1))]) 2 rfl ?_
        refine jri rfl rfl ?_
        exact q
    · rw [if_neg h0, if_pos (hz.resolve_left h0)] at q
      refine jit (pc' := 95) rfl rfl rfl (by rw [bz_eq, decide_eq_false (fun z => h0 z.2)]; rfl) ?_
      refine jx (pc' := 96) (L' := [_, _, _, _, _, _]) (st' := [.int (zI 1)]) 1 rfl ?_
      refine jri rfl rfl ?_
      exact q
  have t55 : ¬ ((R a).2.1 = 1 ∨ (R c).2.1 = 1) → ix_E 196 55 [some (.ref 98), some (.int (zI (a : Int))), some (.int (zI (c : Int))), none, none, none] [] h Q := by
    intro hi
    have sA0 : (R a).2.1 = 0 := by omega
    have sB0 : (R c).2.1 = 0 := by omega
    refine jx (pc' := 57) (L' := [_, _, _, _, _, _]) (st' := [_, _]) 2 rfl ?_
    refine jcv (pc' := 60) 197 [_] [] K.ob rfl rfl rfl rfl rfl rfl rfl rfl ?_
    refine m_isZero K rfl ha (jk ?_)
    by_cases h0 : (R a).2.2.2.2 = 0
    · skip
      refine jit (pc' := 71) rfl rfl rfl (by rw [bz_ne, decide_eq_true ⟨sA0, h0⟩]) ?_
      exact t71 hi (Or.inl h0)
    · skip
      refine jin (pc' := 63) 71 rfl rfl rfl rfl (by rw [bz_ne, decide_eq_false (fun z => h0 z.2)]) ?_
      refine jx (pc' := 65) (L' := [_, _, _, _, _, _]) (st' := [_, _]) 2 rfl ?_
      refine jcv (pc' := 68) 197 [_] [] K.ob rfl rfl rfl rfl rfl rfl rfl rfl ?_
      refine m_isZero K rfl hc (jk ?_)
      by_cases h1 : (R c).2.2.2.2 = 0
      · skip
        refine jin (pc' := 71) 97 rfl rfl rfl rfl (by rw [bz_eq, decide_eq_true ⟨sB0, h1⟩]; rfl) ?_
        exact t71 hi (Or.inr h1)
      · skip
        refine jit (pc' := 97) rfl rfl rfl (by rw [bz_eq, decide_eq_false (fun z => h1 z.2)]; rfl) ?_
        exact t97 hi (fun z => z.elim h0 h1)
  refine jx (pc' := 1) (L' := [_, _, _, _, _, _]) (st' := [_]) 1 rfl ?_
  refine jgf (pc' := 4) K.ob rfl rfl rfl rfl rfl ?_
  refine jx (pc' := 5) (L' := [_, _, _, _, _, _]) (st' := [_, _]) 1 rfl ?_
  refine jR_so (pc' := 6) a K rfl rfl (by omega) (by omega)  rfl ?_
  refine jx (pc' := 7) (L' := [_, _, _, _, _, _]) (st' := [.int (zI 1), _]) 1 rfl ?_
  by_cases e : (R a).2.1 = 1
  · have e1 := swp_1.mpr e
    refine jct (pc' := 20) rfl rfl rfl (by rw [zc_eq ⟨by omega, by omega⟩ ⟨by omega, by omega⟩]; exact decide_eq_true (by omega)) ?_
    exact t20 (Or.inl e)
  · have e1 : ¬ swp (R a).2.1 = 1 := fun z => e (swp_1.mp z)
    refine jcn (pc' := 10) 20 rfl rfl rfl rfl (by rw [zc_eq ⟨by omega, by omega⟩ ⟨by omega, by omega⟩]; exact decide_eq_false (by omega)) ?_
    refine jx (pc' := 11) (L' := [_, _, _, _, _, _]) (st' := [_]) 1 rfl ?_
    refine jgf (pc' := 14) K.ob rfl rfl rfl rfl rfl ?_
    refine jx (pc' := 15) (L' := [_, _, _, _, _, _]) (st' := [_, _]) 1 rfl ?_
    refine jR_so (pc' := 16) c K rfl rfl (by omega) (by omega)  rfl ?_
    refine jx (pc' := 17) (L' := [_, _, _, _, _, _]) (st' := [.int (zI 1), _]) 1 rfl ?_
    by_cases e2 : (R c).2.1 = 1
    · have e3 := swp_1.mpr e2
      refine jcn (pc' := 20) 55 rfl rfl rfl rfl (by rw [zc_ne ⟨by omega, by omega⟩ ⟨by omega, by omega⟩]; exact decide_eq_false (by omega)) ?_
      exact t20 (Or.inr e2)
    · have e3 : ¬ swp (R c).2.1 = 1 := fun z => e2 (swp_1.mp z)
      refine jct (pc' := 55) rfl rfl rfl (by rw [zc_ne ⟨by omega, by omega⟩ ⟨by omega, by omega⟩]; exact decide_eq_true (by omega)) ?_
      exact t55 (fun z => z.elim e e2)
theorem m_order (K : (RI S0 h R V cd dr ra si tr mo ng sp sz wr il rs pt rl wo tx ou)) (ha0 : a0 = (a : Int)) (hb0 : b0 = (c : Int)) (ha : a < 12) (hc : c < 12) (hA : (R a).2.1 < 2) (hB : (R c).2.1 < 2) (q : Q (.inl (some (.int (zI (orF (R a) (R c)))))) h) : ix_M 199 [.ref 98, .int (zI a0), .int (zI b0)] h Q := by
  subst ha0
  subst hb0
  unfold orF at q
  have hsz : -1 ≤ szD (R a) (R c) ∧ szD (R a) (R c) ≤ 1 := szs_b _ _ _ _ _ _
  have t64 : ¬ ((R a).2.1 = 0 ∧ (R a).2.2.2.2 = 0) → ((R c).2.1 = 0 ∧ (R c).2.2.2.2 = 0) ∨ ¬ (R a).2.2.1 = (R c).2.2.1 → ix_E 199 64 [some (.ref 98), some (.int (zI (a : Int))), some (.int (zI (c : Int))), none] [] h Q := by
    intro h1 h2
    rw [if_neg (fun z => h1 z.1), if_neg h1, if_pos h2] at q
    refine jx (pc' := 65) (L' := [_, _, _, _]) (st' := [_]) 1 rfl ?_
    refine jgf (pc' := 68) K.ob rfl rfl rfl rfl rfl ?_
    refine jx (pc' := 69) (L' := [_, _, _, _]) (st' := [_, _]) 1 rfl ?_
    refine jR_m (pc' := 70) a K rfl rfl (by omega) (by omega)  rfl ?_
    cases hn : (R a).2.2.1
    · rw [hn, if_neg (by decide)] at q
      refine jit (pc' := 77) rfl rfl rfl (by rfl) ?_
      refine jx (pc' := 78) (L' := [_, _, _, _]) (st' := [.int (zI 1)]) 1 rfl ?_
      refine jri rfl rfl ?_
      exact q
    · rw [hn, if_pos rfl] at q
      refine jin (pc' := 73) 77 rfl rfl rfl rfl (by rfl) ?_
      refine jx (pc' := 78) (L' := [_, _, _, _]) (st' := [.int (zI (-1))]) 2 rfl ?_
      refine jri rfl rfl ?_
      exact q
  have t79 : ¬ ((R a).2.1 = 0 ∧ (R a).2.2.2.2 = 0) → ¬ (((R c).2.1 = 0 ∧ (R c).2.2.2.2 = 0) ∨ ¬ (R a).2.2.1 = (R c).2.2.1) → ix_E 199 79 [some (.ref 98), some (.int (zI (a : Int))), some (.int (zI (c : Int))), none] [] h Q := by
    intro h1 h2
    rw [if_neg (fun z => h1 z.1), if_neg h1, if_neg h2] at q
    refine jx (pc' := 82) (L' := [_, _, _, _]) (st' := [_, _, _]) 3 rfl ?_
    refine jcv (pc' := 85) 196 [_, _] [] K.ob rfl rfl rfl rfl rfl rfl rfl rfl ?_
    refine m_orderSizes K rfl rfl ha hc hA hB (jk ?_)
    refine jx (pc' := 87) (L' := [_, _, _, _]) (st' := [_]) 2 rfl ?_
    refine jgf (pc' := 90) K.ob rfl rfl rfl rfl rfl ?_
    refine jx (pc' := 91) (L' := [_, _, _, _]) (st' := [_, _]) 1 rfl ?_
    refine jR_m (pc' := 92) a K rfl rfl (by omega) (by omega)  rfl ?_
    cases hn : (R a).2.2.1
    · rw [hn, if_neg (by decide)] at q
      refine jit (pc' := 100) rfl rfl rfl (by rfl) ?_
      refine jx (pc' := 101) (L' := [_, _, _, _]) (st' := [_]) 1 rfl ?_
      refine jri rfl rfl ?_
      exact q
    · rw [hn, if_pos rfl] at q
      refine jin (pc' := 95) 100 rfl rfl rfl rfl (by rfl) ?_
      refine jx (pc' := 101) (L' := [_, _, _, _]) (st' := [_]) 3 rfl ?_
      try simp (disch := omega) only [kz, kzl0, kzl1, kzb, kzs, zI_add, zI_sub, zI_neg, zI_mul, zL_i, zI_l, zL_add, zL_sub, zL_neg]
      refine jri rfl rfl ?_
      exact q
  have t18 : ¬ (((R a).2.1 = 0 ∧ (R a).2.2.2.2 = 0) ∧ ((R c).2.1 = 0 ∧ (R c).2.2.2.2 = 0)) → ix_E 199 18 [some (.ref 98), some (.int (zI (a : Int))), some (.int (zI (c : Int))), none] [] h Q := by
    intro h0
    refine jx (pc' := 20) (L' := [_, _, _, _]) (st' := [_, _]) 2 rfl ?_
    refine jcv (pc' := 23) 197 [_] [] K.ob rfl rfl rfl rfl rfl rfl rfl rfl ?_
    refine m_isZero K rfl ha (jk ?_)
    by_cases h1 : (R a).2.1 = 0 ∧ (R a).2.2.2.2 = 0
    · rw [if_neg h0, if_pos h1] at q
      refine jin (pc' := 26) 41 rfl rfl rfl rfl (by rw [bz_eq, decide_eq_true h1]; rfl) ?_
      refine jx (pc' := 27) (L' := [_, _, _, _]) (st' := [_]) 1 rfl ?_
      refine jgf (pc' := 30) K.ob rfl rfl rfl rfl rfl ?_
      refine jx (pc' := 31) (L' := [_, _, _, _]) (st' := [_, _]) 1 rfl ?_
      refine jR_m (pc' := 32) c K rfl rfl (by omega) (by omega)  rfl ?_
      cases hn : (R c).2.2.1
      · rw [hn, if_neg (by decide)] at q
        refine jit (pc' := 39) rfl rfl rfl (by rfl) ?_
        refine jx (pc' := 40) (L' := [_, _, _, _]) (st' := [.int (zI (-1))]) 1 rfl ?_
        refine jri rfl rfl ?_
        exact q
      · rw [hn, if_pos rfl] at q
        refine jin (pc' := 35) 39 rfl rfl rfl rfl (by rfl) ?_
        refine jx (pc' := 40) (L' := [_, _, _, _]) (st' := [.int (zI 1)]) 2 rfl ?_
        refine jri rfl rfl ?_
        exact q
    · skip
      refine jit (pc' := 41) rfl rfl rfl (by rw [bz_eq, decide_eq_false h1]; rfl) ?_
      refine jx (pc' := 43) (L' := [_, _, _, _]) (st' := [_, _]) 2 rfl ?_
      refine jcv (pc' := 46) 197 [_] [] K.ob rfl rfl rfl rfl rfl rfl rfl rfl ?_
      refine m_isZero K rfl hc (jk ?_)
      by_cases h2 : (R c).2.1 = 0 ∧ (R c).2.2.2.2 = 0
      · skip
        refine jit (pc' := 64) rfl rfl rfl (by rw [bz_ne, decide_eq_true h2]) ?_
        exact t64 h1 (Or.inl h2)
      · skip
        refine jin (pc' := 49) 64 rfl rfl rfl rfl (by rw [bz_ne, decide_eq_false h2]) ?_
        refine jx (pc' := 50) (L' := [_, _, _, _]) (st' := [_]) 1 rfl ?_
        refine jgf (pc' := 53) K.ob rfl rfl rfl rfl rfl ?_
        refine jx (pc' := 54) (L' := [_, _, _, _]) (st' := [_, _]) 1 rfl ?_
        refine jR_m (pc' := 55) a K rfl rfl (by omega) (by omega)  rfl ?_
        refine jx (pc' := 56) (L' := [_, _, _, _]) (st' := [_, _]) 1 rfl ?_
        refine jgf (pc' := 59) K.ob rfl rfl rfl rfl rfl ?_
        refine jx (pc' := 60) (L' := [_, _, _, _]) (st' := [_, _, _]) 1 rfl ?_
        refine jR_m (pc' := 61) c K rfl rfl (by omega) (by omega)  rfl ?_
        by_cases h3 : (R a).2.2.1 = (R c).2.2.1
        · skip
          refine jct (pc' := 79) rfl rfl rfl (by rw [bc_eq, decide_eq_true h3]) ?_
          exact t79 h1 (fun z => z.elim h2 (fun y => y h3))
        · skip
          refine jcn (pc' := 64) 79 rfl rfl rfl rfl (by rw [bc_eq, decide_eq_false h3]) ?_
          exact t64 h1 (Or.inr h3)
  refine jx (pc' := 2) (L' := [_, _, _, _]) (st' := [_, _]) 2 rfl ?_
  refine jcv (pc' := 5) 197 [_] [] K.ob rfl rfl rfl rfl rfl rfl rfl rfl ?_
  refine m_isZero K rfl ha (jk ?_)
  by_cases h1 : (R a).2.1 = 0 ∧ (R a).2.2.2.2 = 0
  · skip
    refine jin (pc' := 8) 18 rfl rfl rfl rfl (by rw [bz_eq, decide_eq_true h1]; rfl) ?_
    refine jx (pc' := 10) (L' := [_, _, _, _]) (st' := [_, _]) 2 rfl ?_
    refine jcv (pc' := 13) 197 [_] [] K.ob rfl rfl rfl rfl rfl rfl rfl rfl ?_
    refine m_isZero K rfl hc (jk ?_)
    by_cases h2 : (R c).2.1 = 0 ∧ (R c).2.2.2.2 = 0
    · rw [if_pos ⟨h1, h2⟩] at q
      refine jin (pc' := 16) 18 rfl rfl rfl rfl (by rw [bz_eq, decide_eq_true h2]; rfl) ?_
      refine jx (pc' := 17) (L' := [_, _, _, _]) (st' := [.int (zI 0)]) 1 rfl ?_
      refine jri rfl rfl ?_
      exact q
    · skip
      refine jit (pc' := 18) rfl rfl rfl (by rw [bz_eq, decide_eq_false h2]; rfl) ?_
      exact t18 (fun z => h2 z.2)
  · skip
    refine jit (pc' := 18) rfl rfl rfl (by rw [bz_eq, decide_eq_false h1]; rfl) ?_
    exact t18 (fun z => h1 z.1)
theorem orF_b (A B : Dm) : -1 ≤ orF A B ∧ orF A B ≤ 1 := by
  have hsz : -1 ≤ szD A B ∧ szD A B ≤ 1 := szs_b _ _ _ _ _ _
  unfold orF
  split
  · omega
  · split
    · split <;> omega
    · split
      · split <;> omega
      · split <;> omega
theorem m_choose {w0 : Int} {w : Nat} (K : (RI S0 h R V cd dr ra (0) tr mo ng sp sz wr il rs pt rl wo tx ou)) (hw0 : w0 = (w : Int)) (hw : 6 ≤ w ∧ w ≤ 9) (q : ∀ h', (RJ S0 h' (va_up R 8 (chF w (R 9) (R 10)).1) cd dr ra ((chF w (R 9) (R 10)).2) tr sz wr tx ou) → Q (.inl none) h') : ix_M 193 [.ref 98, .int (zI w0), .int (zI 9), .int (zI 10)] h Q := by
  subst hw0
  have rA := K.rv (r := 9) (by decide)
  have rB := K.rv (r := 10) (by decide)
  have hsA := swp_b rA.2.1
  have hsB := swp_b rB.2.1
  have sA4 := rA.2.1
  have sB4 := rB.2.1
  unfold chF at q
  -- one of them alone is NaN
  have t36 : ((R 9).2.1 = 3 ∧ (R 10).2.1 < 2) ∨ ((R 10).2.1 = 3 ∧ (R 9).2.1 < 2) → ix_E 193 36 [some (.ref 98), some (.int (zI (w : Int))), some (.int (zI 9)), some (.int (zI 10)), none, none] [] h Q := by
    intro hi
    have hn : 2 ≤ (R 9).2.1 ∨ 2 ≤ (R 10).2.1 := by omega
    rw [if_pos hn] at q
    unfold pbN at q
    refine jx (pc' := 45) (L' := [_, _, _, _, _, _]) (st' := [_]) 4 rfl ?_
    try simp (disch := omega) only [kz, kzl0, kzl1, kzb, kzs, zI_add, zI_sub, zI_neg, zI_mul, zL_i, zI_l, zL_add, zL_sub, zL_neg]
    refine jin (pc' := 48) 68 rfl rfl rfl rfl (by rfl) ?_
    refine jx (pc' := 51) (L' := [_, _, _, _, _, _]) (st' := [_, _, _]) 3 rfl ?_
    refine jcv (pc' := 54) 194 [_] [_] K.ob rfl rfl rfl rfl rfl rfl rfl rfl ?_
    refine m_isNaN (r := 9) K rfl (by decide) (jk ?_)
    rcases hi with hi | hi
    · rw [if_pos hi] at q
      rw [decide_eq_true (by omega)]
      refine jin (pc' := 57) 61 rfl rfl rfl rfl (by rfl) ?_
      refine jx (pc' := 64) (L' := [_, _, _, _, _, _]) (st' := [.int (zI 8), _, _]) 3 rfl ?_
      refine jcv (pc' := 67) 192 [_, .int (zI 8)] [] K.ob rfl rfl rfl rfl rfl rfl rfl rfl ?_
      refine m_copy (a := 10) (c := 8) K rfl rfl (by decide) (by decide) (by decide) fun h K => jk ?_
      refine ix_qr _ rfl rfl rfl ?_
      exact q _ K.rj
    · have g : ¬ ((R 9).2.1 = 3 ∧ (R 10).2.1 < 2) := by omega
      rw [if_neg g, if_pos hi] at q
      rw [decide_eq_false (by omega)]
      refine jit (pc' := 61) rfl rfl rfl (by rfl) ?_
      refine jx (pc' := 64) (L' := [_, _, _, _, _, _]) (st' := [.int (zI 8), _, _]) 2 rfl ?_
      refine jcv (pc' := 67) 192 [_, .int (zI 8)] [] K.ob rfl rfl rfl rfl rfl rfl rfl rfl ?_
      refine m_copy (a := 9) (c := 8) K rfl rfl (by decide) (by decide) (by decide) fun h K => jk ?_
      refine ix_qr _ rfl rfl rfl ?_
      exact q _ K.rj
  have t40 : ¬ (((R 9).2.1 = 3 ∧ (R 10).2.1 < 2) ∨ ((R 10).2.1 = 3 ∧ (R 9).2.1 < 2)) → ix_E 193 40 [some (.ref 98), some (.int (zI (w : Int))), some (.int (zI 9)), some (.int (zI 10)), none, none] [] h Q := by
    intro hi
    have g1 : ¬ ((R 9).2.1 = 3 ∧ (R 10).2.1 < 2) := fun z => hi (Or.inl z)
    have g2 : ¬ ((R 10).2.1 = 3 ∧ (R 9).2.1 < 2) := fun z => hi (Or.inr z)
    refine jx (pc' := 45) (L' := [_, _, _, _, _, _]) (st' := [_]) 3 rfl ?_
    try simp (disch := omega) only [kz, kzl0, kzl1, kzb, kzs, zI_add, zI_sub, zI_neg, zI_mul, zL_i, zI_l, zL_add, zL_sub, zL_neg]
    refine jit (pc' := 68) rfl rfl rfl (by rfl) ?_
    refine jx (pc' := 72) (L' := [_, _, _, _, _, _]) (st' := [.int (zI (-1)), _, _, _]) 4 rfl ?_
    refine jcv (pc' := 75) 195 [_, _, .int (zI (-1))] [] K.ob rfl rfl rfl rfl rfl rfl rfl rfl ?_
    refine m_nans (a := 9) (B := (R 10)) (C := (R 10)) K rfl ⟨by decide, by decide⟩ (Or.inr ⟨10, by decide, by decide, rfl, rfl⟩) (Or.inl ⟨rfl, rfl⟩) (fun hn => jk ?_) (fun hn h K => jk ?_)
    · have g : ¬ (2 ≤ (R 9).2.1 ∨ 2 ≤ (R 10).2.1) := by omega
      rw [if_neg g] at q
      have oF := or_F (A := (R 9)) (B := (R 10)) (by omega) (by omega)
      have hsz : -1 ≤ szD (R 9) (R 10) ∧ szD (R 9) (R 10) ≤ 1 := szs_b _ _ _ _ _ _
      have hob := orF_b (R 9) (R 10)
      refine jit (pc' := 79) rfl rfl rfl (by rfl) ?_
      have t110 : ∀ wy : Int, wy = pkO w (R 9) (R 10) → ix_E 193 110 [some (.ref 98), some (.int (zI (w : Int))), some (.int (zI 9)), some (.int (zI 10)), some (.int (bI false)), some (.int (zI wy))] [] h Q := by
        intro wy hwy
        have hwb : -1 ≤ wy ∧ wy ≤ 1 := by
          rw [hwy]
          unfold pkO
          split
          · exact hsz
          · rw [oF]; exact hob
        unfold pkD at q
        rw [← hwy] at q
        have t135 : ∀ z : Nat, z < 12 ∧ ¬ z = 8 → (if (if w = 7 ∨ w = 9 then wy < 0 else 0 < wy) then (R 10) else (R 9)) = R z → ix_E 193 135 [some (.ref 98), some (.int (zI (w : Int))), some (.int (zI 9)), some (.int (zI 10)), some (.int (bI false)), some (.int (zI wy))] [.int (zI (z : Int)), .ref 98] h Q := by
          intro z hz ez
          rw [ez] at q
          refine jx (pc' := 137) (L' := [_, _, _, _, _, _]) (st' := [.int (zI 8), _, _]) 1 rfl ?_
          refine jcv (pc' := 140) 192 [_, _] [] K.ob rfl rfl rfl rfl rfl rfl rfl rfl ?_
          refine m_copy (a := z) (c := 8) K rfl rfl hz.1 (by decide) hz.2 fun h K => jk ?_
          refine ix_qr _ rfl rfl rfl ?_
          exact q _ K.rj
        have tB : (if w = 7 ∨ w = 9 then wy < 0 else 0 < wy) → ix_E 193 135 [some (.ref 98), some (.int (zI (w : Int))), some (.int (zI 9)), some (.int (zI 10)), some (.int (bI false)), some (.int (zI wy))] [.int (zI 10), .ref 98] h Q := fun z => t135 10 (by decide) (if_pos z)
        have tA : ¬ (if w = 7 ∨ w = 9 then wy < 0 else 0 < wy) → ix_E 193 135 [some (.ref 98), some (.int (zI (w : Int))), some (.int (zI 9)), some (.int (zI 10)), some (.int (bI false)), some (.int (zI wy))] [.int (zI 9), .ref 98] h Q := fun z => t135 9 (by decide) (if_neg z)
        refine jx (pc' := 113) (L' := [_, _, _, _, _, _]) (st' := [.int (zI 2), _, _]) 3 rfl ?_
        refine jirem (pc' := 114) rfl rfl (by decide) rfl ?_
        rw [zrem ⟨by omega, by omega⟩ ⟨by omega, by omega⟩]
        by_cases ho : w = 7 ∨ w = 9
        · rw [if_pos ho] at tA tB
          refine jit (pc' := 125) rfl rfl rfl (by rw [zz_ne ⟨by omega, by omega⟩]; exact decide_eq_true (by omega)) ?_
          refine jx (pc' := 127) (L' := [_, _, _, _, _, _]) (st' := [_, _]) 1 rfl ?_
          by_cases h0 : wy < 0
          · skip
            refine jin (pc' := 130) 134 rfl rfl rfl rfl (by rw [zz_ge ⟨by omega, by omega⟩]; exact decide_eq_false (by omega)) ?_
            refine jx (pc' := 135) (L' := [_, _, _, _, _, _]) (st' := [_, _]) 2 rfl ?_
            exact tB h0
          · skip
            refine jit (pc' := 134) rfl rfl rfl (by rw [zz_ge ⟨by omega, by omega⟩]; exact decide_eq_true (by omega)) ?_
            refine jx (pc' := 135) (L' := [_, _, _, _, _, _]) (st' := [_, _]) 1 rfl ?_
            exact tA h0
        · rw [if_neg ho] at tA tB
          refine jin (pc' := 117) 125 rfl rfl rfl rfl (by rw [zz_ne ⟨by omega, by omega⟩]; exact decide_eq_false (by omega)) ?_
          refine jx (pc' := 119) (L' := [_, _, _, _, _, _]) (st' := [_, _]) 1 rfl ?_
          by_cases h0 : 0 < wy
          · skip
            refine jin (pc' := 122) 134 rfl rfl rfl rfl (by rw [zz_le ⟨by omega, by omega⟩]; exact decide_eq_false (by omega)) ?_
            refine jx (pc' := 135) (L' := [_, _, _, _, _, _]) (st' := [_, _]) 3 rfl ?_
            exact tB h0
          · skip
            refine jit (pc' := 134) rfl rfl rfl (by rw [zz_le ⟨by omega, by omega⟩]; exact decide_eq_true (by omega)) ?_
            refine jx (pc' := 135) (L' := [_, _, _, _, _, _]) (st' := [_, _]) 1 rfl ?_
            exact tA h0
      have t97 : ∀ wy : Int, -1 ≤ wy ∧ wy ≤ 1 → (¬ wy = 0 → wy = pkO w (R 9) (R 10)) → (wy = 0 → orF (R 9) (R 10) = pkO w (R 9) (R 10)) → ix_E 193 97 [some (.ref 98), some (.int (zI (w : Int))), some (.int (zI 9)), some (.int (zI 10)), some (.int (bI false)), some (.int (zI wy))] [] h Q := by
        intro wy hb h1 h2
        refine jx (pc' := 99) (L' := [_, _, _, _, _, _]) (st' := [_]) 1 rfl ?_
        by_cases h0 : wy = 0
        · skip
          refine jin (pc' := 102) 110 rfl rfl rfl rfl (by rw [zz_ne ⟨by omega, by omega⟩]; exact decide_eq_false (by omega)) ?_
          refine jx (pc' := 105) (L' := [_, _, _, _, _, _]) (st' := [_, _, _]) 3 rfl ?_
          refine jcv (pc' := 108) 199 [_, _] [] K.ob rfl rfl rfl rfl rfl rfl rfl rfl ?_
          refine m_order (a := 9) (c := 10) K rfl rfl (by decide) (by decide) (by omega) (by omega) (jk ?_)
          refine jx (pc' := 110) (L' := [_, _, _, _, _, _]) (st' := []) 1 rfl ?_
          exact t110 _ (h2 h0)
        · skip
          refine jit (pc' := 110) rfl rfl rfl (by rw [zz_ne ⟨by omega, by omega⟩]; exact decide_eq_true (by omega)) ?_
          exact t110 _ (h1 h0)
      refine jx (pc' := 82) (L' := [_, _, _, _, _, _]) (st' := [.int (zI 7), _]) 2 rfl ?_
      by_cases h8 : 8 ≤ w
      · skip
        refine jcn (pc' := 85) 94 rfl rfl rfl rfl (by rw [zc_le ⟨by omega, by omega⟩ ⟨by omega, by omega⟩]; exact decide_eq_false (by omega)) ?_
        refine jx (pc' := 88) (L' := [_, _, _, _, _, _]) (st' := [_, _, _]) 3 rfl ?_
        refine jcv (pc' := 91) 196 [_, _] [] K.ob rfl rfl rfl rfl rfl rfl rfl rfl ?_
        refine m_orderSizes (a := 9) (c := 10) K rfl rfl (by decide) (by decide) (by omega) (by omega) (jk ?_)
        refine jx (pc' := 97) (L' := [_, _, _, _, _, _]) (st' := []) 2 rfl ?_
        refine t97 _ hsz (fun z => ?_) (fun z => ?_)
        · unfold pkO
          rw [if_pos ⟨h8, z⟩]
        · unfold pkO
          rw [if_neg (fun y => y.2 z), oF]
      · skip
        refine jct (pc' := 94) rfl rfl rfl (by rw [zc_le ⟨by omega, by omega⟩ ⟨by omega, by omega⟩]; exact decide_eq_true (by omega)) ?_
        refine jx (pc' := 97) (L' := [_, _, _, _, _, _]) (st' := []) 2 rfl ?_
        try simp (disch := omega) only [kz, kzl0, kzl1, kzb, kzs, zI_add, zI_sub, zI_neg, zI_mul, zL_i, zI_l, zL_add, zL_sub, zL_neg]
        refine t97 0 ⟨by decide, by decide⟩ (fun z => absurd rfl z) (fun z => ?_)
        unfold pkO
        rw [if_neg (fun y => h8 y.1), oF]
    · have g : 2 ≤ (R 9).2.1 ∨ 2 ≤ (R 10).2.1 := by omega
      rw [if_pos g] at q
      unfold pbN at q
      rw [if_neg g1, if_neg g2] at q
      refine jin (pc' := 78) 79 rfl rfl rfl rfl (by rfl) ?_
      refine ix_qr _ rfl rfl rfl ?_
      rw [Nat.zero_or] at K
      exact q _ K.rj
  have t18 : ¬ ((R 9).2.1 = 3 ∧ (R 10).2.1 < 2) → ix_E 193 18 [some (.ref 98), some (.int (zI (w : Int))), some (.int (zI 9)), some (.int (zI 10)), none, none] [] h Q := by
    intro h1
    refine jx (pc' := 19) (L' := [_, _, _, _, _, _]) (st' := [_]) 1 rfl ?_
    refine jgf (pc' := 22) K.ob rfl rfl rfl rfl rfl ?_
    refine jx (pc' := 23) (L' := [_, _, _, _, _, _]) (st' := [_, _]) 1 rfl ?_
    refine jR_so (pc' := 24) 10 K rfl rfl (by omega) (by omega)  rfl ?_
    refine jx (pc' := 25) (L' := [_, _, _, _, _, _]) (st' := [.int (zI 2), _]) 1 rfl ?_
    by_cases h2 : (R 10).2.1 = 3
    · have e3 := swp_2.mpr h2
      refine jcn (pc' := 28) 40 rfl rfl rfl rfl (by rw [zc_ne ⟨by omega, by omega⟩ ⟨by omega, by omega⟩]; exact decide_eq_false (by omega)) ?_
      refine jx (pc' := 30) (L' := [_, _, _, _, _, _]) (st' := [_, _]) 2 rfl ?_
      refine jcv (pc' := 33) 194 [_] [] K.ob rfl rfl rfl rfl rfl rfl rfl rfl ?_
      refine m_isNaN (r := 9) K rfl (by decide) (jk ?_)
      by_cases h3 : 2 ≤ (R 9).2.1
      · skip
        refine jit (pc' := 40) rfl rfl rfl (by rw [bz_ne, decide_eq_true h3]) ?_
        exact t40 (fun z => z.elim h1 (fun y => by omega))
      · skip
        refine jin (pc' := 36) 40 rfl rfl rfl rfl (by rw [bz_ne, decide_eq_false h3]) ?_
        exact t36 (Or.inr ⟨h2, by omega⟩)
    · have e3 : ¬ swp (R 10).2.1 = 2 := fun z => h2 (swp_2.mp z)
      refine jct (pc' := 40) rfl rfl rfl (by rw [zc_ne ⟨by omega, by omega⟩ ⟨by omega, by omega⟩]; exact decide_eq_true (by omega)) ?_
      exact t40 (fun z => z.elim h1 (fun y => h2 y.1))
  refine jx (pc' := 1) (L' := [_, _, _, _, _, _]) (st' := [_]) 1 rfl ?_
  refine jgf (pc' := 4) K.ob rfl rfl rfl rfl rfl ?_
  refine jx (pc' := 5) (L' := [_, _, _, _, _, _]) (st' := [_, _]) 1 rfl ?_
  refine jR_so (pc' := 6) 9 K rfl rfl (by omega) (by omega)  rfl ?_
  refine jx (pc' := 7) (L' := [_, _, _, _, _, _]) (st' := [.int (zI 2), _]) 1 rfl ?_
  by_cases h2 : (R 9).2.1 = 3
  · have e3 := swp_2.mpr h2
    refine jcn (pc' := 10) 18 rfl rfl rfl rfl (by rw [zc_ne ⟨by omega, by omega⟩ ⟨by omega, by omega⟩]; exact decide_eq_false (by omega)) ?_
    refine jx (pc' := 12) (L' := [_, _, _, _, _, _]) (st' := [_, _]) 2 rfl ?_
    refine jcv (pc' := 15) 194 [_] [] K.ob rfl rfl rfl rfl rfl rfl rfl rfl ?_
    refine m_isNaN (r := 10) K rfl (by decide) (jk ?_)
    by_cases h3 : 2 ≤ (R 10).2.1
    · skip
      refine jin (pc' := 18) 36 rfl rfl rfl rfl (by rw [bz_eq, decide_eq_true h3]; rfl) ?_
      exact t18 (fun z => by omega)
    · skip
      refine jit (pc' := 36) rfl rfl rfl (by rw [bz_eq, decide_eq_false h3]; rfl) ?_
      exact t36 (Or.inl ⟨h2, by omega⟩)
  · have e3 : ¬ swp (R 9).2.1 = 2 := fun z => h2 (swp_2.mp z)
    refine jct (pc' := 18) rfl rfl rfl (by rw [zc_ne ⟨by omega, by omega⟩ ⟨by omega, by omega⟩]; exact decide_eq_true (by omega)) ?_
    exact t18 (fun z => h2 z.1)
theorem m_rank (K : (RI S0 h R V cd dr ra si tr mo ng sp sz wr il rs pt rl wo tx ou)) (ha0 : a0 = (a : Int)) (ha : a < 12) (q : Q (.inl (some (.int (zI ((R a).2.1 : Nat))))) h) : ix_M 255 [.ref 98, .int (zI a0)] h Q := by
  have hs := (K.rv ha).2.1
  have hsA := swp_b hs
  refine jx (pc' := 1) (L' := [_, _]) (st' := [_]) 1 rfl ?_
  refine jgf (pc' := 4) K.ob rfl rfl rfl rfl rfl ?_
  refine jx (pc' := 5) (L' := [_, _]) (st' := [_, _]) 1 rfl ?_
  refine jR_so (pc' := 6) a K rfl rfl (by omega) (by omega)  rfl ?_
  by_cases e0 : (R a).2.1 = 0
  · have e1 := swp_0.mpr e0
    rw [e0] at q
    refine jin (pc' := 9) 13 rfl rfl rfl rfl (by rw [zz_ne ⟨by omega, by omega⟩]; exact decide_eq_false (by omega)) ?_
    refine jx (pc' := 42) (L' := [_, _]) (st' := [.int (zI 0)]) 2 rfl ?_
    refine jri rfl rfl ?_
    exact q
  · have e1 : ¬ swp (R a).2.1 = 0 := fun z => e0 (swp_0.mp z)
    refine jit (pc' := 13) rfl rfl rfl (by rw [zz_ne ⟨by omega, by omega⟩]; exact decide_eq_true (by omega)) ?_
    refine jx (pc' := 14) (L' := [_, _]) (st' := [_]) 1 rfl ?_
    refine jgf (pc' := 17) K.ob rfl rfl rfl rfl rfl ?_
    refine jx (pc' := 18) (L' := [_, _]) (st' := [_, _]) 1 rfl ?_
    refine jR_so (pc' := 19) a K rfl rfl (by omega) (by omega)  rfl ?_
    refine jx (pc' := 20) (L' := [_, _]) (st' := [.int (zI 1), _]) 1 rfl ?_
    by_cases e2 : (R a).2.1 = 1
    · have e3 := swp_1.mpr e2
      rw [e2] at q
      refine jcn (pc' := 23) 27 rfl rfl rfl rfl (by rw [zc_ne ⟨by omega, by omega⟩ ⟨by omega, by omega⟩]; exact decide_eq_false (by omega)) ?_
      refine jx (pc' := 42) (L' := [_, _]) (st' := [.int (zI 1)]) 2 rfl ?_
      refine jri rfl rfl ?_
      exact q
    · have e3 : ¬ swp (R a).2.1 = 1 := fun z => e2 (swp_1.mp z)
      refine jct (pc' := 27) rfl rfl rfl (by rw [zc_ne ⟨by omega, by omega⟩ ⟨by omega, by omega⟩]; exact decide_eq_true (by omega)) ?_
      refine jx (pc' := 28) (L' := [_, _]) (st' := [_]) 1 rfl ?_
      refine jgf (pc' := 31) K.ob rfl rfl rfl rfl rfl ?_
      refine jx (pc' := 32) (L' := [_, _]) (st' := [_, _]) 1 rfl ?_
      refine jR_so (pc' := 33) a K rfl rfl (by omega) (by omega)  rfl ?_
      refine jx (pc' := 34) (L' := [_, _]) (st' := [.int (zI 3), _]) 1 rfl ?_
      by_cases e4 : (R a).2.1 = 2
      · have e5 := swp_3.mpr e4
        rw [e4] at q
        refine jcn (pc' := 37) 41 rfl rfl rfl rfl (by rw [zc_ne ⟨by omega, by omega⟩ ⟨by omega, by omega⟩]; exact decide_eq_false (by omega)) ?_
        refine jx (pc' := 42) (L' := [_, _]) (st' := [.int (zI 2)]) 2 rfl ?_
        refine jri rfl rfl ?_
        exact q
      · have e5 : ¬ swp (R a).2.1 = 3 := fun z => e4 (swp_3.mp z)
        rw [show (R a).2.1 = 3 by omega] at q
        refine jct (pc' := 41) rfl rfl rfl (by rw [zc_ne ⟨by omega, by omega⟩ ⟨by omega, by omega⟩]; exact decide_eq_true (by omega)) ?_
        refine jx (pc' := 42) (L' := [_, _]) (st' := [.int (zI 3)]) 1 rfl ?_
        refine jri rfl rfl ?_
        exact q
theorem cmpI_s (x y : Int) : (0 < cmpI x y ↔ y < x) ∧ (cmpI x y < 0 ↔ x < y) := by
  unfold cmpI
  split
  · omega
  · split <;> omega
theorem m_rankSizes (K : (RI S0 h R V cd dr ra si tr mo ng sp sz wr il rs pt rl wo tx ou)) (ha0 : a0 = (a : Int)) (hb0 : b0 = (c : Int)) (ha : a < 12) (hc : c < 12) (vA : ValD (R a)) (vB : ValD (R c)) (q : ∀ w : Int, -100000 ≤ w ∧ w ≤ 100000 → (0 < w ↔ 0 < fzD (R a) (R c)) → (w < 0 ↔ fzD (R a) (R c) < 0) → Q (.inl (some (.int (zI w)))) h) : ix_M 254 [.ref 98, .int (zI a0), .int (zI b0)] h Q := by
  subst ha0
  subst hb0
  have bA := Val.b vA
  have bB := Val.b vB
  have rA := K.rv ha
  have rB := K.rv hc
  have hsA := swp_b rA.2.1
  have sA4 := rA.2.1
  have sB4 := rB.2.1
  have cA := rA.2.2.2.2
  have cB := rB.2.2.2.2
  have hsz : -1 ≤ szD (R a) (R c) ∧ szD (R a) (R c) ≤ 1 := szs_b _ _ _ _ _ _
  unfold fzD fzo at q
  refine jx (pc' := 2) (L' := [_, _, _, _]) (st' := [_, _]) 2 rfl ?_
  refine jcv (pc' := 5) 255 [_] [] K.ob rfl rfl rfl rfl rfl rfl rfl rfl ?_
  refine m_rank K rfl ha (jk ?_)
  refine jx (pc' := 7) (L' := [_, _, _, _]) (st' := [_, _, _]) 2 rfl ?_
  refine jcv (pc' := 10) 255 [_] [_] K.ob rfl rfl rfl rfl rfl rfl rfl rfl ?_
  refine m_rank K rfl hc (jk ?_)
  by_cases e : (R a).2.1 = (R c).2.1
  · rw [if_neg (fun z => z e)] at q
    refine jct (pc' := 25) rfl rfl rfl (by rw [zc_eq ⟨by omega, by omega⟩ ⟨by omega, by omega⟩]; exact decide_eq_true (by omega)) ?_
    refine jx (pc' := 26) (L' := [_, _, _, _]) (st' := [_]) 1 rfl ?_
    refine jgf (pc' := 29) K.ob rfl rfl rfl rfl rfl ?_
    refine jx (pc' := 30) (L' := [_, _, _, _]) (st' := [_, _]) 1 rfl ?_
    refine jR_so (pc' := 31) a K rfl rfl (by omega) (by omega)  rfl ?_
    refine jx (pc' := 32) (L' := [_, _, _, _]) (st' := [.int (zI 1), _]) 1 rfl ?_
    by_cases e2 : (R a).2.1 = 1
    · have e3 := swp_1.mpr e2
      have ea : (R a).2.2.2.1 = 0 := by rcases vA.2.2.2.2.1 with z | z <;> omega
      have eb : (R c).2.2.2.1 = 0 := by rcases vB.2.2.2.2.1 with z | z <;> omega
      have es : szs (R a).2.1 (R a).2.2.2.1 (R a).2.2.2.2 (R c).2.1 (R c).2.2.2.1 (R c).2.2.2.2 = 0 := by
        unfold szs
        rw [if_pos (Or.inl e2)]
        exact cmp_e e
      rw [if_neg (by omega), es, if_neg (fun z => z rfl), ea, eb] at q
      refine jcn (pc' := 35) 37 rfl rfl rfl rfl (by rw [zc_ne ⟨by omega, by omega⟩ ⟨by omega, by omega⟩]; exact decide_eq_false (by omega)) ?_
      refine jx (pc' := 36) (L' := [_, _, _, _]) (st' := [.int (zI 0)]) 1 rfl ?_
      refine jri rfl rfl ?_
      exact q 0 ⟨by decide, by decide⟩ (by decide) (by decide)
    · have e3 : ¬ swp (R a).2.1 = 1 := fun z => e2 (swp_1.mp z)
      refine jct (pc' := 37) rfl rfl rfl (by rw [zc_ne ⟨by omega, by omega⟩ ⟨by omega, by omega⟩]; exact decide_eq_true (by omega)) ?_
      refine jx (pc' := 39) (L' := [_, _, _, _]) (st' := [_, _]) 2 rfl ?_
      refine jcv (pc' := 42) 194 [_] [] K.ob rfl rfl rfl rfl rfl rfl rfl rfl ?_
      refine m_isNaN K rfl ha (jk ?_)
      by_cases e4 : 2 ≤ (R a).2.1
      · rw [if_pos e4] at q
        have cs := cmpI_s ((R a).2.2.2.2 : Int) ((R c).2.2.2.2 : Int)
        refine jin (pc' := 45) 89 rfl rfl rfl rfl (by rw [bz_eq, decide_eq_true e4]; rfl) ?_
        have loop : ∀ n : Nat, n ≤ 40 → (∀ i, n ≤ i → i < 40 → (R a).2.2.2.2 / 10 ^ i % 10 = (R c).2.2.2.2 / 10 ^ i % 10) → ix_E 254 48 [some (.ref 98), some (.int (zI (a : Int))), some (.int (zI (c : Int))), some (.int (zI ((n : Int) - 1)))] [] h Q := by
          intro n
          induction n with
          | zero =>
            intro hn he
            have eq := dg_eq cA cB fun i hi => he i (by omega) hi
            refine jx (pc' := 49) (L' := [_, _, _, _]) (st' := [_]) 1 rfl ?_
            refine jit (pc' := 87) rfl rfl rfl (by rw [zz_lt ⟨by omega, by omega⟩]; exact decide_eq_true (by omega)) ?_
            refine jx (pc' := 88) (L' := [_, _, _, _]) (st' := [.int (zI 0)]) 1 rfl ?_
            refine jri rfl rfl ?_
            exact q 0 ⟨by decide, by decide⟩ (by omega) (by omega)
          | succ n ih =>
            intro hn he
            have b1 := dg_b (R a).2.2.2.2 n
            have b2 := dg_b (R c).2.2.2.2 n
            have x1 : atD (R a).2.2.2.2 (((n + 1 : Nat) : Int) - 1) = (R a).2.2.2.2 / 10 ^ n % 10 := by rw [show ((n + 1 : Nat) : Int) - 1 = (n : Int) by omega, atD_n]
            have x2 : atD (R c).2.2.2.2 (((n + 1 : Nat) : Int) - 1) = (R c).2.2.2.2 / 10 ^ n % 10 := by rw [show ((n + 1 : Nat) : Int) - 1 = (n : Int) by omega, atD_n]
            refine jx (pc' := 49) (L' := [_, _, _, _]) (st' := [_]) 1 rfl ?_
            refine jin (pc' := 52) 87 rfl rfl rfl rfl (by rw [zz_lt ⟨by omega, by omega⟩]; exact decide_eq_false (by omega)) ?_
            refine jx (pc' := 55) (L' := [_, _, _, _]) (st' := [_, _, _]) 3 rfl ?_
            refine jcv (pc' := 58) 198 [_, _] [] K.ob rfl rfl rfl rfl rfl rfl rfl rfl ?_
            refine m_at K rfl ha ⟨by omega, by omega⟩ (jk ?_)
            refine jx (pc' := 61) (L' := [_, _, _, _]) (st' := [_, _, _, _]) 3 rfl ?_
            refine jcv (pc' := 64) 198 [_, _] [_] K.ob rfl rfl rfl rfl rfl rfl rfl rfl ?_
            refine m_at K rfl hc ⟨by omega, by omega⟩ (jk ?_)
            rw [x1, x2]
            by_cases h0 : (R a).2.2.2.2 / 10 ^ n % 10 = (R c).2.2.2.2 / 10 ^ n % 10
            · skip
              refine jct (pc' := 81) rfl rfl rfl (by rw [zc_eq ⟨by omega, by omega⟩ ⟨by omega, by omega⟩]; exact decide_eq_true (by omega)) ?_
              refine jx (pc' := 48) (L' := [_, _, _, _]) (st' := []) 2 rfl ?_
              try simp (disch := omega) only [kz, kzl0, kzl1, kzb, kzs, zI_add, zI_sub, zI_neg, zI_mul, zL_i, zI_l, zL_add, zL_sub, zL_neg]
              rw [show ((n + 1 : Nat) : Int) - 1 + -1 = (n : Int) - 1 by omega]
              refine ih (by omega) fun i h1 h2 => ?_
              by_cases h3 : i = n
              · rw [h3]; exact h0
              · exact he i (by omega) h2
            · skip
              refine jcn (pc' := 67) 81 rfl rfl rfl rfl (by rw [zc_eq ⟨by omega, by omega⟩ ⟨by omega, by omega⟩]; exact decide_eq_false (by omega)) ?_
              refine jx (pc' := 70) (L' := [_, _, _, _]) (st' := [_, _, _]) 3 rfl ?_
              refine jcv (pc' := 73) 198 [_, _] [] K.ob rfl rfl rfl rfl rfl rfl rfl rfl ?_
              refine m_at K rfl ha ⟨by omega, by omega⟩ (jk ?_)
              refine jx (pc' := 76) (L' := [_, _, _, _]) (st' := [_, _, _, _]) 3 rfl ?_
              refine jcv (pc' := 79) 198 [_, _] [_] K.ob rfl rfl rfl rfl rfl rfl rfl rfl ?_
              refine m_at K rfl hc ⟨by omega, by omega⟩ (jk ?_)
              rw [x1, x2]
              refine jx (pc' := 80) (L' := [_, _, _, _]) (st' := [_]) 1 rfl ?_
              try simp (disch := omega) only [kz, kzl0, kzl1, kzb, kzs, zI_add, zI_sub, zI_neg, zI_mul, zL_i, zI_l, zL_add, zL_sub, zL_neg]
              refine jri rfl rfl ?_
              by_cases h2 : (R a).2.2.2.2 / 10 ^ n % 10 < (R c).2.2.2.2 / 10 ^ n % 10
              · have := dif_c cA cB (fun i a b => he i (by omega) b) h2
                exact q _ ⟨by omega, by omega⟩ (by omega) (by omega)
              · have := dif_c cB cA (fun i a b => (he i (by omega) b).symm) (show (R c).2.2.2.2 / 10 ^ n % 10 < (R a).2.2.2.2 / 10 ^ n % 10 by omega)
                exact q _ ⟨by omega, by omega⟩ (by omega) (by omega)
        refine jx (pc' := 48) (L' := [_, _, _, _]) (st' := []) 2 rfl ?_
        try simp (disch := omega) only [kz, kzl0, kzl1, kzb, kzs, zI_add, zI_sub, zI_neg, zI_mul, zL_i, zI_l, zL_add, zL_sub, zL_neg]
        exact loop 40 (Nat.le_refl _) (fun i h1 h2 => by omega)
      · rw [if_neg e4] at q
        have cs := cmpI_s (R a).2.2.2.1 (R c).2.2.2.1
        refine jit (pc' := 89) rfl rfl rfl (by rw [bz_eq, decide_eq_false e4]; rfl) ?_
        refine jx (pc' := 92) (L' := [_, _, _, _]) (st' := [_, _, _]) 3 rfl ?_
        refine jcv (pc' := 95) 196 [_, _] [] K.ob rfl rfl rfl rfl rfl rfl rfl rfl ?_
        refine m_orderSizes K rfl rfl ha hc (by omega) (by omega) (jk ?_)
        refine jx (pc' := 97) (L' := [_, _, _, _]) (st' := [_]) 2 rfl ?_
        by_cases h0 : szD (R a) (R c) = 0
        · have h0' : szs (R a).2.1 (R a).2.2.2.1 (R a).2.2.2.2 (R c).2.1 (R c).2.2.2.1 (R c).2.2.2.2 = 0 := h0
          rw [if_neg (fun z => z h0')] at q
          refine jit (pc' := 104) rfl rfl rfl (by rw [zz_eq ⟨by omega, by omega⟩]; exact decide_eq_true (by omega)) ?_
          refine jx (pc' := 105) (L' := [_, _, _, _]) (st' := [_]) 1 rfl ?_
          refine jgf (pc' := 108) K.ob rfl rfl rfl rfl rfl ?_
          refine jx (pc' := 109) (L' := [_, _, _, _]) (st' := [_, _]) 1 rfl ?_
          refine jR_p (pc' := 110) a K rfl rfl (by omega) (by omega)  rfl ?_
          refine jx (pc' := 111) (L' := [_, _, _, _]) (st' := [_, _]) 1 rfl ?_
          refine jgf (pc' := 114) K.ob rfl rfl rfl rfl rfl ?_
          refine jx (pc' := 115) (L' := [_, _, _, _]) (st' := [_, _, _]) 1 rfl ?_
          refine jR_p (pc' := 116) c K rfl rfl (by omega) (by omega)  rfl ?_
          refine jx (pc' := 117) (L' := [_, _, _, _]) (st' := [_]) 1 rfl ?_
          try simp (disch := omega) only [kz, kzl0, kzl1, kzb, kzs, zI_add, zI_sub, zI_neg, zI_mul, zL_i, zI_l, zL_add, zL_sub, zL_neg]
          refine jri rfl rfl ?_
          exact q _ ⟨by omega, by omega⟩ (by omega) (by omega)
        · have h0' : ¬ szs (R a).2.1 (R a).2.2.2.1 (R a).2.2.2.2 (R c).2.1 (R c).2.2.2.1 (R c).2.2.2.2 = 0 := h0
          rw [if_pos h0'] at q
          refine jin (pc' := 100) 104 rfl rfl rfl rfl (by rw [zz_eq ⟨by omega, by omega⟩]; exact decide_eq_false (by omega)) ?_
          refine jx (pc' := 117) (L' := [_, _, _, _]) (st' := [_]) 2 rfl ?_
          refine jri rfl rfl ?_
          exact q _ ⟨by omega, by omega⟩ Iff.rfl Iff.rfl
  · rw [if_pos e] at q
    refine jcn (pc' := 13) 25 rfl rfl rfl rfl (by rw [zc_eq ⟨by omega, by omega⟩ ⟨by omega, by omega⟩]; exact decide_eq_false (by omega)) ?_
    refine jx (pc' := 15) (L' := [_, _, _, _]) (st' := [_, _]) 2 rfl ?_
    refine jcv (pc' := 18) 255 [_] [] K.ob rfl rfl rfl rfl rfl rfl rfl rfl ?_
    refine m_rank K rfl ha (jk ?_)
    refine jx (pc' := 20) (L' := [_, _, _, _]) (st' := [_, _, _]) 2 rfl ?_
    refine jcv (pc' := 23) 255 [_] [_] K.ob rfl rfl rfl rfl rfl rfl rfl rfl ?_
    refine m_rank K rfl hc (jk ?_)
    refine jx (pc' := 24) (L' := [_, _, _, _]) (st' := [_]) 1 rfl ?_
    try simp (disch := omega) only [kz, kzl0, kzl1, kzb, kzs, zI_add, zI_sub, zI_neg, zI_mul, zL_i, zI_l, zL_add, zL_sub, zL_neg]
    refine jri rfl rfl ?_
    by_cases h2 : (R a).2.1 < (R c).2.1
    · rw [if_pos h2] at q
      exact q _ ⟨by omega, by omega⟩ (by omega) (by omega)
    · rw [if_neg h2] at q
      exact q _ ⟨by omega, by omega⟩ (by omega) (by omega)
end REF
