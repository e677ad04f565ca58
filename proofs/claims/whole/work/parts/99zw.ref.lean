/-! ===== the reference: whole ===== -/
theorem zLmd {d : Nat} (h : d < 10) : zL (-9223372036854775808 + (d : Int)) / zL 10 = zL (-(((9223372036854775808 - d) / 10 : Nat) : Int)) := by
  have e := zLdv (n := 9223372036854775808 - d) true (by
    by_cases z : d = 0
    · exact Or.inr ⟨rfl, by omega⟩
    · left; omega)
  rw [if_pos rfl, if_pos rfl] at e
  have e2 : (-9223372036854775808 : Int) + (d : Int) = -((9223372036854775808 - d : Nat) : Int) := by omega
  rw [e2, e]
noncomputable def whV (m : Nat) (A : Dm) : Int := if 9223372036854775808 ≤ whC m A then -9223372036854775808 else if A.2.2.1 then -(whC m A : Int) else (whC m A : Int)
noncomputable def whL (m : Nat) (A : Dm) : Bool := decide (whC m A = 9223372036854775808) && A.2.2.1
abbrev cWi (x w : Int) : Prop := (0 ≤ x ∧ x ≤ 8) ∧ 0 ≤ w ∧ w ≤ 5
section REF
variable {h : ix_H} {Q : ix_O → ix_H → Prop} {S0 : Nat → AC} {R F : Nat → Dm} {V cd dr ra si tr : Nat} {mo ng : Bool} {sp sz wr : Nat} {il : Bool} {rs pt rl wo tx ou : Nat → Nat} {j x y z w a0 b0 : Int} {r f s m a c : Nat} {b t qt exa : Bool} {hi lo v : Int32}
theorem m_wholeOf {m0 : Int} (K : (RI S0 h R V cd dr ra si tr mo ng sp sz wr il rs pt rl wo tx ou)) (vA : ValD (R 9)) (hs : (R 9).2.1 = 0) (hm0 : m0 = (m : Int)) (hm : m < 5) (q : ∀ h' V mo ng sp rs pt rl wo, (RI S0 h' (va_up R 8 ((R 9).1, 0, (R 9).2.2.1, 0, whC m (R 9))) V cd dr ra (if tpI (R 9).2.2.2.1 0 (R 9).2.2.2.2 then si ||| 16 else si) tr mo ng sp sz wr (whL m (R 9)) rs pt rl wo tx ou) → Q (.inl (some (.long (zL (whV m (R 9)))))) h') : ix_M 250 [.ref 98, .int (zI m0)] h Q := by
  have bA := Val.b vA
  have cA := Val.c34 vA
  have hsA := swp_b vA.2.1
  refine jx (pc' := 5) (L' := [_, _, _, _, _, _, _, _]) (st' := [_, .int (zI 0), .int (zI 9), _]) 4 rfl ?_
  refine jcv (pc' := 8) 231 [.int (zI 9), .int (zI 0), _] [] K.ob rfl rfl rfl rfl rfl rfl rfl rfl ?_
  refine m_toPower K vA ⟨by decide, by decide⟩ hm0 hm fun h K => jk ?_
  obtain ⟨V, mo, ng, sp, il, rs, pt, rl, wo, K⟩ := K
  have q := fun (h' : ix_H) => q h' V mo ng sp rs pt rl wo
  have hzC : (R 9).2.2.2.2 = 0 → whC m (R 9) = 0 := fun z => by
    unfold whC tpC
    rw [z, pV_0, dgs_0 rfl, if_neg (by omega)]
    have := cutV_0 ((12500 + (0 : Int)).toNat : Int) m (R 9).2.2.1
    exact this
  have rC := (K.rv (r := 8) (by decide)).2.2.2.2
  rw [va_up_self] at rC
  have hCe : tpC m (R 9).2.2.1 (R 9).2.2.2.1 0 (R 9).2.2.2.2 = whC m (R 9) := rfl
  rw [hCe] at K rC
  dsimp only at rC
  unfold whV whL at q
  generalize whC m (R 9) = C at *
  generalize (if tpI (R 9).2.2.2.1 0 (R 9).2.2.2.2 then si ||| 16 else si) = sg at *
  have h63 : (9223372036854775808 : Nat) < 10 ^ 19 := by decide
  -- what is answered
  have t111 : ∀ (far : Bool) (v : Int) (l5 : Int) (l6 : Option Value), far = decide (9223372036854775808 < C) → (far = false → v = -(C : Int)) → lr v → ix_E 250 111 [some (.ref 98), some (.int (zI m0)), some (.long (zL v)), none, some (.int (bI far)), some (.int (zI l5)), l6, none] [] h Q := by
    intro far v l5 l6 hfar hv hlv
    have hv1 := hlv.1
    have hv2 := hlv.2
    have t143 : ∀ (h1 : ix_H), (RI S0 h1 (va_up R 8 ((R 9).1, 0, (R 9).2.2.1, 0, C)) V cd dr ra (sg) tr mo ng sp sz wr (decide (C = 9223372036854775808) && (R 9).2.2.1) rs pt rl wo tx ou) → ix_E 250 143 [some (.ref 98), some (.int (zI m0)), some (.long (zL v)), none, some (.int (bI far)), some (.int (zI l5)), l6, none] [] h1 Q := by
      intro h K
      have q := q h K
      have t166 : 9223372036854775808 ≤ C → ix_E 250 166 [some (.ref 98), some (.int (zI m0)), some (.long (zL v)), none, some (.int (bI far)), some (.int (zI l5)), l6, none] [] h Q := by
        intro hc
        rw [if_pos hc] at q
        refine jx (pc' := 188) (L' := [_, _, _, _, _, _, _, _]) (st' := [_]) 2 rfl ?_
        try simp (disch := omega) only [kMm9223372036854775808, kz, kzl0, kzl1, kzb, kzs, zI_add, zI_sub, zI_neg, zI_mul, zL_i, zI_l, zL_add, zL_sub, zL_neg]
        refine ix_qr _ rfl rfl rfl ?_
        exact q
      have t172 : far = false → (C < 9223372036854775808 ∨ (C = 9223372036854775808 ∧ (R 9).2.2.1 = true)) → ix_E 250 172 [some (.ref 98), some (.int (zI m0)), some (.long (zL v)), none, some (.int (bI far)), some (.int (zI l5)), l6, none] [] h Q := by
        intro hff hc
        have hv := hv hff
        refine jx (pc' := 173) (L' := [_, _, _, _, _, _, _, _]) (st' := [_]) 1 rfl ?_
        refine jgf (pc' := 176) K.ob rfl rfl rfl rfl rfl ?_
        refine jx (pc' := 178) (L' := [_, _, _, _, _, _, _, _]) (st' := [.int (zI 9), _]) 1 rfl ?_
        refine jR_m (pc' := 179) 9 K rfl rfl (by omega) (by omega)  rfl ?_
        rw [va_up_ne _ _ (by decide)]
        cases hn : (R 9).2.2.1
        · rw [hn] at q hc
          have hc' : C < 9223372036854775808 := hc.elim id (fun z => nomatch z.2)
          rw [if_neg (by omega), if_neg (by decide)] at q
          refine jit (pc' := 186) rfl rfl rfl (by rfl) ?_
          refine jx (pc' := 188) (L' := [_, _, _, _, _, _, _, _]) (st' := [_]) 2 rfl ?_
          try simp (disch := omega) only [kz, kzl0, kzl1, kzb, kzs, zI_add, zI_sub, zI_neg, zI_mul, zL_i, zI_l, zL_add, zL_sub, zL_neg]
          refine ix_qr _ rfl rfl rfl ?_
          rw [hv, Int.neg_neg]
          exact q
        · rw [hn] at q
          refine jin (pc' := 182) 186 rfl rfl rfl rfl (by rfl) ?_
          refine jx (pc' := 188) (L' := [_, _, _, _, _, _, _, _]) (st' := [_]) 2 rfl ?_
          refine ix_qr _ rfl rfl rfl ?_
          rw [hv]
          by_cases hc2 : 9223372036854775808 ≤ C
          · rw [if_pos hc2] at q
            rw [show -(C : Int) = -9223372036854775808 by omega]
            exact q
          · rw [if_neg hc2, if_pos rfl] at q
            exact q
      refine jx (pc' := 145) (L' := [_, _, _, _, _, _, _, _]) (st' := [_]) 1 rfl ?_
      cases hff : far
      · rw [hff] at hfar t172
        have hc := of_decide_eq_false hfar.symm
        have hv := hv hff
        refine jin (pc' := 148) 166 rfl rfl rfl rfl (by rfl) ?_
        refine jx (pc' := 153) (L' := [_, _, _, _, _, _, _, _]) (st' := [_]) 3 rfl ?_
        try simp (disch := omega) only [kMm9223372036854775808, kz, kzl0, kzl1, kzb, kzs, zI_add, zI_sub, zI_neg, zI_mul, zL_i, zI_l, zL_add, zL_sub, zL_neg]
        by_cases hm63 : C = 9223372036854775808
        · skip
          refine jin (pc' := 156) 172 rfl rfl rfl rfl (by rw [zl_ne ⟨by omega, by omega⟩ ⟨by omega, by omega⟩]; exact decide_eq_false (by omega)) ?_
          refine jx (pc' := 157) (L' := [_, _, _, _, _, _, _, _]) (st' := [_]) 1 rfl ?_
          refine jgf (pc' := 160) K.ob rfl rfl rfl rfl rfl ?_
          refine jx (pc' := 162) (L' := [_, _, _, _, _, _, _, _]) (st' := [.int (zI 9), _]) 1 rfl ?_
          refine jR_m (pc' := 163) 9 K rfl rfl (by omega) (by omega)  rfl ?_
          rw [va_up_ne _ _ (by decide)]
          cases hn : (R 9).2.2.1
          · skip
            refine jin (pc' := 166) 172 rfl rfl rfl rfl (by rfl) ?_
            rw [← hff]
            exact t166 (by omega)
          · skip
            refine jit (pc' := 172) rfl rfl rfl (by rfl) ?_
            rw [← hff]
            have := t172 rfl (Or.inr ⟨hm63, hn⟩)
            rw [← hff] at this
            exact this
        · skip
          refine jit (pc' := 172) rfl rfl rfl (by rw [zl_ne ⟨by omega, by omega⟩ ⟨by omega, by omega⟩]; exact decide_eq_true (by omega)) ?_
          have := t172 rfl (Or.inl (by omega))
          exact this
      · rw [hff] at hfar
        have hc := of_decide_eq_true hfar.symm
        refine jit (pc' := 166) rfl rfl rfl (by rfl) ?_
        rw [← hff]
        exact t166 (by omega)
    have t140 : ∀ il2 : Bool, il2 = (decide (C = 9223372036854775808) && (R 9).2.2.1) → ix_E 250 140 [some (.ref 98), some (.int (zI m0)), some (.long (zL v)), none, some (.int (bI far)), some (.int (zI l5)), l6, none] [.int (bI il2), .ref 98] h Q := by
      intro il2 hil
      refine jp_il (pc' := 143) il2 K rfl rfl rfl rfl rfl fun h K => ?_
      rw [hil] at K
      exact t143 h K
    refine jx (pc' := 114) (L' := [_, _, _, _, _, _, _, _]) (st' := [_, _]) 2 rfl ?_
    cases hff : far
    · rw [hff] at hfar t140
      have hc := of_decide_eq_false hfar.symm
      have hv := hv hff
      refine jin (pc' := 117) 139 rfl rfl rfl rfl (by rfl) ?_
      refine jx (pc' := 122) (L' := [_, _, _, _, _, _, _, _]) (st' := [_, _]) 3 rfl ?_
      try simp (disch := omega) only [kMm9223372036854775808, kz, kzl0, kzl1, kzb, kzs, zI_add, zI_sub, zI_neg, zI_mul, zL_i, zI_l, zL_add, zL_sub, zL_neg]
      by_cases hm63 : C = 9223372036854775808
      · skip
        refine jin (pc' := 125) 139 rfl rfl rfl rfl (by rw [zl_ne ⟨by omega, by omega⟩ ⟨by omega, by omega⟩]; exact decide_eq_false (by omega)) ?_
        refine jx (pc' := 126) (L' := [_, _, _, _, _, _, _, _]) (st' := [_, _]) 1 rfl ?_
        refine jgf (pc' := 129) K.ob rfl rfl rfl rfl rfl ?_
        refine jx (pc' := 131) (L' := [_, _, _, _, _, _, _, _]) (st' := [.int (zI 9), _, _]) 1 rfl ?_
        refine jR_m (pc' := 132) 9 K rfl rfl (by omega) (by omega)  rfl ?_
        rw [va_up_ne _ _ (by decide)]
        cases hn : (R 9).2.2.1
        · rw [hn] at t140
          refine jit (pc' := 139) rfl rfl rfl (by rfl) ?_
          refine jx (pc' := 140) (L' := [_, _, _, _, _, _, _, _]) (st' := [.int (zI 0), _]) 1 rfl ?_
          exact t140 false (by simp)
        · rw [hn] at t140
          refine jin (pc' := 135) 139 rfl rfl rfl rfl (by rfl) ?_
          refine jx (pc' := 140) (L' := [_, _, _, _, _, _, _, _]) (st' := [.int (zI 1), _]) 2 rfl ?_
          exact t140 true (by simp [hm63])
      · skip
        refine jit (pc' := 139) rfl rfl rfl (by rw [zl_ne ⟨by omega, by omega⟩ ⟨by omega, by omega⟩]; exact decide_eq_true (by omega)) ?_
        refine jx (pc' := 140) (L' := [_, _, _, _, _, _, _, _]) (st' := [.int (zI 0), _]) 1 rfl ?_
        exact t140 false (by simp [hm63])
    · rw [hff] at hfar t140
      have hc := of_decide_eq_true hfar.symm
      refine jit (pc' := 139) rfl rfl rfl (by rfl) ?_
      refine jx (pc' := 140) (L' := [_, _, _, _, _, _, _, _]) (st' := [.int (zI 0), _]) 1 rfl ?_
      exact t140 false (by rw [decide_eq_false (by omega)]; rfl)
  have t45 : C < 10 ^ 19 → ∀ n : Nat, n ≤ 19 → C / 10 ^ n ≤ 9223372036854775808 → ∀ l6, ix_E 250 45 [some (.ref 98), some (.int (zI m0)), some (.long (zL (-((C / 10 ^ n : Nat) : Int)))), none, some (.int (bI false)), some (.int (zI ((n : Int) - 1))), l6, none] [] h Q := by
    intro hC19 n
    induction n with
    | zero =>
      intro hn hle l6
      rw [Nat.pow_zero, Nat.div_one] at hle ⊢
      refine jx (pc' := 47) (L' := [_, _, _, _, _, _, _, _]) (st' := [_]) 1 rfl ?_
      refine jit (pc' := 111) rfl rfl rfl (by rw [zz_lt ⟨by omega, by omega⟩]; exact decide_eq_true (by omega)) ?_
      exact t111 false _ _ _ (decide_eq_false (by omega)).symm (fun _ => rfl) ⟨by omega, by omega⟩
    | succ n ih =>
      intro hn hle l6
      have hb := dg_b C n
      have hds := div_s C n
      have hnm : n < 40 := by omega
      refine jx (pc' := 47) (L' := [_, _, _, _, _, _, _, _]) (st' := [_]) 1 rfl ?_
      refine jin (pc' := 50) 111 rfl rfl rfl rfl (by rw [zz_lt ⟨by omega, by omega⟩]; exact decide_eq_false (by omega)) ?_
      refine jx (pc' := 52) (L' := [_, _, _, _, _, _, _, _]) (st' := [_]) 1 rfl ?_
      refine jin (pc' := 55) 111 rfl rfl rfl rfl (by rfl) ?_
      refine jx (pc' := 56) (L' := [_, _, _, _, _, _, _, _]) (st' := [_]) 1 rfl ?_
      refine jgf (pc' := 59) K.ob rfl rfl rfl rfl rfl ?_
      refine jx (pc' := 65) (L' := [_, _, _, _, _, _, _, _]) (st' := [_, _]) 3 rfl ?_
      try simp (disch := omega) only [kz, kzl0, kzl1, kzb, kzs, zI_add, zI_sub, zI_neg, zI_mul, zL_i, zI_l, zL_add, zL_sub, zL_neg]
      refine jR_d (pc' := 66) 8 n K rfl rfl (by omega) (by omega) (by omega)  rfl ?_
      simp only [va_up_self]
      refine jx (pc' := 79) (L' := [_, _, _, _, _, _, _, _]) (st' := [_, _, _]) 7 rfl ?_
      try simp (disch := omega) only [kM10, kMm9223372036854775808, kz, kzl0, kzl1, kzb, kzs, zI_add, zI_sub, zI_neg, zI_mul, zL_i, zI_l, zL_add, zL_sub, zL_neg]
      refine jldiv (pc' := 80) rfl rfl (by decide) rfl ?_
      rw [zLmd hb]
      refine jx (pc' := 81) (L' := [_, _, _, _, _, _, _, _]) (st' := [_]) 1 rfl ?_
      try simp (disch := omega) only [kz, kzl0, kzl1, kzb, kzs, zI_add, zI_sub, zI_neg, zI_mul, zL_i, zI_l, zL_add, zL_sub, zL_neg]
      generalize hdd : C / 10 ^ n % 10 = d at *
      generalize hpp : C / 10 ^ (n + 1) = p at *
      have hle2 : C / 10 ^ n ≤ C := Nat.div_le_self _ _
      have mono : 9223372036854775808 < C / 10 ^ n → 9223372036854775808 < C := fun z => by omega
      by_cases hf : 9223372036854775808 < 10 * p + d
      · skip
        refine jin (pc' := 84) 88 rfl rfl rfl rfl (by rw [zl_ge ⟨by omega, by omega⟩ ⟨by omega, by omega⟩]; exact decide_eq_false (by omega)) ?_
        refine jx (pc' := 93) (L' := [_, _, _, _, _, _, _, _]) (st' := [_]) 4 rfl ?_
        try simp (disch := omega) only [kz, kzl0, kzl1, kzb, kzs, zI_add, zI_sub, zI_neg, zI_mul, zL_i, zI_l, zL_add, zL_sub, zL_neg]
        refine jit (pc' := 105) rfl rfl rfl (by rfl) ?_
        refine jx (pc' := 47) (L' := [_, _, _, _, _, _, _, _]) (st' := [_]) 3 rfl ?_
        try simp (disch := omega) only [kz, kzl0, kzl1, kzb, kzs, zI_add, zI_sub, zI_neg, zI_mul, zL_i, zI_l, zL_add, zL_sub, zL_neg]
        by_cases hn0 : n = 0
        · subst hn0
          refine jit (pc' := 111) rfl rfl rfl (by rw [zz_lt ⟨by omega, by omega⟩]; exact decide_eq_true (by omega)) ?_
          exact t111 true _ _ _ (decide_eq_true (mono (by omega))).symm (fun z => nomatch z) ⟨by omega, by omega⟩
        · skip
          refine jin (pc' := 50) 111 rfl rfl rfl rfl (by rw [zz_lt ⟨by omega, by omega⟩]; exact decide_eq_false (by omega)) ?_
          refine jx (pc' := 52) (L' := [_, _, _, _, _, _, _, _]) (st' := [_]) 1 rfl ?_
          refine jit (pc' := 111) rfl rfl rfl (by rfl) ?_
          exact t111 true _ _ _ (decide_eq_true (mono (by omega))).symm (fun z => nomatch z) ⟨by omega, by omega⟩
      · skip
        refine jit (pc' := 88) rfl rfl rfl (by rw [zl_ge ⟨by omega, by omega⟩ ⟨by omega, by omega⟩]; exact decide_eq_true (by omega)) ?_
        refine jx (pc' := 93) (L' := [_, _, _, _, _, _, _, _]) (st' := [_]) 3 rfl ?_
        try simp (disch := omega) only [kz, kzl0, kzl1, kzb, kzs, zI_add, zI_sub, zI_neg, zI_mul, zL_i, zI_l, zL_add, zL_sub, zL_neg]
        refine jin (pc' := 96) 105 rfl rfl rfl rfl (by rfl) ?_
        refine jx (pc' := 45) (L' := [_, _, _, _, _, _, _, _]) (st' := []) 8 rfl ?_
        try simp (disch := omega) only [kM10, kz, kzl0, kzl1, kzb, kzs, zI_add, zI_sub, zI_neg, zI_mul, zL_i, zI_l, zL_add, zL_sub, zL_neg]
        rw [zL_mul, zL_sub, show (10 : Int) * -(p : Int) - (d : Int) = -((C / 10 ^ n : Nat) : Int) by omega, show ((n + 1 : Nat) : Int) - 1 + -1 = (n : Int) - 1 by omega]
        exact ih (by omega) (by omega) _
  have t39 : ∀ far : Bool, (far = true → 10 ^ 19 ≤ C) → (far = false → C < 10 ^ 19) → ix_E 250 39 [some (.ref 98), some (.int (zI m0)), some (.long (zL 0)), none, none, none, none, none] [.int (bI far)] h Q := by
    intro far h1 h0
    cases far
    · have hC := h0 rfl
      have e := t45 hC 19 (Nat.le_refl _) (by rw [Nat.div_eq_of_lt hC]; decide) none
      rw [Nat.div_eq_of_lt hC] at e
      refine jx (pc' := 45) (L' := [_, _, _, _, _, _, _, _]) (st' := []) 3 rfl ?_
      try simp (disch := omega) only [kz, kzl0, kzl1, kzb, kzs, zI_add, zI_sub, zI_neg, zI_mul, zL_i, zI_l, zL_add, zL_sub, zL_neg]
      exact e
    · have hC := h1 rfl
      refine jx (pc' := 47) (L' := [_, _, _, _, _, _, _, _]) (st' := [_]) 4 rfl ?_
      try simp (disch := omega) only [kz, kzl0, kzl1, kzb, kzs, zI_add, zI_sub, zI_neg, zI_mul, zL_i, zI_l, zL_add, zL_sub, zL_neg]
      refine jin (pc' := 50) 111 rfl rfl rfl rfl (by rw [zz_lt ⟨by omega, by omega⟩]; exact decide_eq_false (by omega)) ?_
      refine jx (pc' := 52) (L' := [_, _, _, _, _, _, _, _]) (st' := [_]) 1 rfl ?_
      refine jit (pc' := 111) rfl rfl rfl (by rfl) ?_
      exact t111 true 0 _ _ (decide_eq_true (by omega)).symm (fun z => nomatch z) ⟨by decide, by decide⟩
  refine jx (pc' := 13) (L' := [_, _, _, _, _, _, _, _]) (st' := [.int (zI 9), _]) 4 rfl ?_
  refine jcv (pc' := 16) 197 [.int (zI 9)] [] K.ob rfl rfl rfl rfl rfl rfl rfl rfl ?_
  refine m_isZero (r := 9) K rfl (by decide) (jk ?_)
  rw [va_up_ne _ _ (by decide)]
  by_cases hz : (R 9).2.2.2.2 = 0
  · have hC := hzC hz
    refine jin (pc' := 19) 23 rfl rfl rfl rfl (by rw [bz_eq, decide_eq_true ⟨hs, hz⟩]; rfl) ?_
    refine jx (pc' := 39) (L' := [_, _, _, _, _, _, _, _]) (st' := [.int (zI 0)]) 2 rfl ?_
    exact t39 false (fun z => nomatch z) (fun _ => by rw [hC]; decide)
  · skip
    refine jit (pc' := 23) rfl rfl rfl (by rw [bz_eq, decide_eq_false (fun z => hz z.2)]; rfl) ?_
    refine jx (pc' := 26) (L' := [_, _, _, _, _, _, _, _]) (st' := [.int (zI 8), _]) 2 rfl ?_
    refine jcv (pc' := 29) 178 [.int (zI 8)] [] K.ob rfl rfl rfl rfl rfl rfl rfl rfl ?_
    refine m_many (r := 8) K rfl (by decide) fun hd => jk ?_
    simp only [va_up_self] at hd ⊢
    refine jx (pc' := 31) (L' := [_, _, _, _, _, _, _, _]) (st' := [.int (zI 19), _]) 1 rfl ?_
    by_cases h19 : 19 < dgs C
    · skip
      refine jcn (pc' := 34) 38 rfl rfl rfl rfl (by rw [zc_le ⟨by omega, by omega⟩ ⟨by omega, by omega⟩]; exact decide_eq_false (by omega)) ?_
      refine jx (pc' := 39) (L' := [_, _, _, _, _, _, _, _]) (st' := [.int (zI 1)]) 2 rfl ?_
      refine t39 true (fun _ => ?_) (fun z => nomatch z)
      refine Nat.le_of_not_lt fun z => ?_
      have := dgs_le z
      omega
    · skip
      refine jct (pc' := 38) rfl rfl rfl (by rw [zc_le ⟨by omega, by omega⟩ ⟨by omega, by omega⟩]; exact decide_eq_true (by omega)) ?_
      refine jx (pc' := 39) (L' := [_, _, _, _, _, _, _, _]) (st' := [.int (zI 0)]) 1 rfl ?_
      exact t39 false (fun z => nomatch z) (fun _ => Nat.lt_of_lt_of_le (dgs_l C) (pl (by omega)))
theorem m_whole (K : (RK S0 h F cd dr ra tr sz wr tx ou)) (hv : ∀ i, i < 9 → ValD (F i)) (hdr : dr < 5) (htr : tr < 32) (hx : zr x) (hw : zr w) (q0 : ¬ cWi x w → ∀ h', (RK S0 h' F (1) dr ra tr sz wr tx ou) → Q (.inl (some (.long (zL 0)))) h') (q1 : cWi x w → (twR (if w = 5 then dr else w.toNat) exa (F x.toNat)).2 &&& tr = 0 → ∀ h', (RK S0 h' F (0) dr (ra ||| (twR (if w = 5 then dr else w.toNat) exa (F x.toNat)).2) tr sz wr tx ou) → Q (.inl (some (.long (zL (twR (if w = 5 then dr else w.toNat) exa (F x.toNat)).1)))) h') (q2 : cWi x w → ¬ (twR (if w = 5 then dr else w.toNat) exa (F x.toNat)).2 &&& tr = 0 → ∀ h', (RK S0 h' F (2) dr (ra ||| (twR (if w = 5 then dr else w.toNat) exa (F x.toNat)).2) tr sz wr tx ou) → Q (.inl (some (.long (zL 0)))) h') : ix_M 249 [.ref 98, .int (zI x), .int (zI w), .int (bI exa)] h Q := by
  obtain ⟨R, si, hR, V, mo, ng, sp, il, rs, pt, rl, wo, K⟩ := K
  have hw1 := hw.1
  have hw2 := hw.2
  have t30 : cWi x w → ∀ h1, (RI S0 h1 R V (0) dr ra si tr mo ng sp sz wr il rs pt rl wo tx ou) → ix_E 249 30 [some (.ref 98), some (.int (zI x)), some (.int (zI w)), some (.int (bI exa)), none, none, none, none] [] h1 Q := by
    intro hc h K
    have q1 := q1 hc
    have q2 := q2 hc
    obtain ⟨⟨x1, x2⟩, w1, w2⟩ := hc
    have hxn : x = ((x.toNat : Nat) : Int) := by omega
    have vx := hv x.toNat (by omega)
    have hm5 : (if w = 5 then dr else w.toNat) < 5 := by split <;> omega
    have eo := wh_F (m := if w = 5 then dr else w.toNat) (exa := exa) vx
    generalize hmm : (if w = 5 then dr else w.toNat) = mm at *
    generalize twR mm exa (F x.toNat) = o at *
    have hs32 : o.2 < 32 := by
      rw [eo]
      unfold whF
      split
      · decide
      · split
        · decide
        · dsimp only; split <;> decide
    refine jx (pc' := 32) (L' := [_, _, _, _, _, _, _, _]) (st' := [.int (zI 0), _]) 2 rfl ?_
    refine jp_si (pc' := 35) 0 K (by first | rfl | (congr 1; omega)) rfl rfl rfl rfl fun h K => ?_
    refine jx (pc' := 40) (L' := [_, _, _, _, _, _, _, _]) (st' := [.int (zI 10), .int (zI 8), _]) 3 rfl ?_
    refine jcv (pc' := 43) 192 [.int (zI 8), .int (zI 10)] [] K.ob rfl rfl rfl rfl rfl rfl rfl rfl ?_
    refine m_copy (a := 8) (c := 10) K rfl rfl (by decide) (by decide) (by decide) fun h K => jk ?_
    refine jx (pc' := 47) (L' := [_, _, _, _, _, _, _, _]) (st' := [.int (zI 9), _, _]) 3 rfl ?_
    refine jcv (pc' := 50) 192 [_, .int (zI 9)] [] K.ob rfl rfl rfl rfl rfl rfl rfl rfl ?_
    refine m_copy (a := x.toNat) (c := 9) K hxn rfl (by omega) (by decide) (by omega) fun h K => jk ?_
    rw [va_up_ne _ _ (show ¬ x.toNat = 10 by omega), hR x.toNat (by omega)] at K
    have e9 : va_up (va_up R 10 (R 8)) 9 (F x.toNat) 9 = F x.toNat := va_up_self _ _ _
    have e10 : va_up (va_up R 10 (R 8)) 9 (F x.toNat) 10 = F 8 := by
      rw [va_up_ne _ _ (by decide), va_up_self]
      exact hR 8 (by decide)
    have eR : ∀ i, i < 9 → va_up (va_up R 10 (R 8)) 9 (F x.toNat) i = F i := fun i hi => by
      rw [va_up_ne _ _ (by omega), va_up_ne _ _ (by omega)]
      exact hR i hi
    clear hR
    generalize va_up (va_up R 10 (R 8)) 9 (F x.toNat) = R at *
    rw [← e9] at vx eo
    have hs4 := swp_b vx.2.1
    have bx := Val.b vx
    refine jx (pc' := 52) (L' := [_, _, _, _, _, _, _, _]) (st' := [.int (zI 0), _]) 2 rfl ?_
    refine jp_il (pc' := 55) false K (by first | rfl | (congr 1; omega)) rfl rfl rfl rfl fun h K => ?_
    refine jx (pc' := 59) (L' := [_, _, _, _, _, _, _, _]) (st' := [_]) 3 rfl ?_
    refine jgf (pc' := 62) K.ob rfl rfl rfl rfl rfl ?_
    refine jx (pc' := 64) (L' := [_, _, _, _, _, _, _, _]) (st' := [.int (zI 9), _]) 1 rfl ?_
    refine jR_so (pc' := 65) 9 K rfl rfl (by omega) (by omega)  rfl ?_
    -- the end
    have t169 : ∀ (h1 : ix_H) (gd : Bool) (vv : Int) (s' : Nat) (r8 : Dm) (V : Nat) (mo ng : Bool) (sp : Nat) (il : Bool) (rs pt rl wo : Nat → Nat) (l7 : Option Value), o.2 = (if gd then s' else 1) → o.1 = (if gd then vv else -9223372036854775808) → (RI S0 h1 (va_up R 8 r8) V (0) dr ra (s') tr mo ng sp sz wr il rs pt rl wo tx ou) → ix_E 249 169 [some (.ref 98), some (.int (zI x)), some (.int (zI w)), some (.int (bI exa)), some (.long (zL vv)), none, some (.int (bI gd)), l7] [] h1 Q := by
      intro h gd vv s' r8 V mo ng sp il rs pt rl wo l7 ho2 ho1 K
      have hR8 : ∀ i, i < 9 → va_up (va_up R 8 r8) 8 (va_up R 8 r8 10) i = F i := fun i hi => by
        rw [va_up_up, va_up_ne _ _ (show ¬ 10 = 8 by decide), e10]
        by_cases z : i = 8
        · rw [z, va_up_self]
        · rw [va_up_ne _ _ z]; exact eR i hi
      have t187 : ∀ (h1 : ix_H), (RI S0 h1 (va_up (va_up R 8 r8) 8 (va_up R 8 r8 10)) V (0) dr ra (o.2) tr mo ng sp sz wr il rs pt rl wo tx ou) → ix_E 249 187 [some (.ref 98), some (.int (zI x)), some (.int (zI w)), some (.int (bI exa)), some (.long (zL vv)), none, some (.int (bI gd)), l7] [] h1 Q := by
        intro h K
        refine jx (pc' := 189) (L' := [_, _, _, _, _, _, _, _]) (st' := [.int (zI (-1)), _]) 2 rfl ?_
        refine jcv (pc' := 192) 233 [.int (zI (-1))] [] K.ob rfl rfl rfl rfl rfl rfl rfl rfl ?_
        refine m_over K (Or.inl rfl) hs32 htr (fun h0 h K => jk ?_) (fun h0 h K => jk ?_)
        · rw [if_pos rfl] at K
          have q := q1 h0 h ⟨_, _, hR8, K.rj⟩
          rw [ho1] at q
          refine jx (pc' := 194) (L' := [_, _, _, _, _, _, _, _]) (st' := [_]) 2 rfl ?_
          refine jgf (pc' := 197) K.ob rfl rfl rfl rfl rfl ?_
          refine jit (pc' := 204) rfl rfl rfl (by rfl) ?_
          refine jx (pc' := 206) (L' := [_, _, _, _, _, _, _, _]) (st' := [_]) 1 rfl ?_
          cases gd
          · rw [if_neg (by decide)] at q
            refine jit (pc' := 214) rfl rfl rfl (by rfl) ?_
            refine jx (pc' := 217) (L' := [_, _, _, _, _, _, _, _]) (st' := [_]) 1 rfl ?_
            try simp (disch := omega) only [kMm9223372036854775808, kz, kzl0, kzl1, kzb, kzs, zI_add, zI_sub, zI_neg, zI_mul, zL_i, zI_l, zL_add, zL_sub, zL_neg]
            refine ix_qr _ rfl rfl rfl ?_
            exact q
          · rw [if_pos rfl] at q
            refine jin (pc' := 209) 214 rfl rfl rfl rfl (by rfl) ?_
            refine jx (pc' := 217) (L' := [_, _, _, _, _, _, _, _]) (st' := [_]) 2 rfl ?_
            refine ix_qr _ rfl rfl rfl ?_
            exact q
        · skip
          refine jx (pc' := 194) (L' := [_, _, _, _, _, _, _, _]) (st' := [_]) 2 rfl ?_
          refine jgf (pc' := 197) K.ob rfl rfl rfl rfl rfl ?_
          refine jin (pc' := 200) 204 rfl rfl rfl rfl (by rfl) ?_
          refine jx (pc' := 217) (L' := [_, _, _, _, _, _, _, _]) (st' := [.long (zL 0)]) 2 rfl ?_
          refine ix_qr _ rfl rfl rfl ?_
          exact q2 h0 h ⟨_, _, hR8, K.rj⟩
      refine jx (pc' := 174) (L' := [_, _, _, _, _, _, _, _]) (st' := [.int (zI 8), .int (zI 10), _]) 3 rfl ?_
      refine jcv (pc' := 177) 192 [.int (zI 10), .int (zI 8)] [] K.ob rfl rfl rfl rfl rfl rfl rfl rfl ?_
      refine m_copy (a := 10) (c := 8) K rfl rfl (by decide) (by decide) (by decide) fun h K => jk ?_
      refine jx (pc' := 179) (L' := [_, _, _, _, _, _, _, _]) (st' := [_]) 1 rfl ?_
      cases gd
      · rw [if_neg (by decide)] at ho2
        refine jin (pc' := 182) 187 rfl rfl rfl rfl (by rfl) ?_
        refine jx (pc' := 184) (L' := [_, _, _, _, _, _, _, _]) (st' := [.int (zI 1), _]) 2 rfl ?_
        refine jp_si (pc' := 187) 1 K (by first | rfl | (congr 1; omega)) rfl rfl rfl rfl fun h K => ?_
        rw [← ho2] at K
        exact t187 h K
      · rw [if_pos rfl] at ho2
        refine jit (pc' := 187) rfl rfl rfl (by rfl) ?_
        rw [← ho2] at K
        exact t187 h K
    unfold whF at eo
    by_cases e0 : (R 9).2.1 = 0
    · have e1 := swp_0.mpr e0
      refine jin (pc' := 68) 72 rfl rfl rfl rfl (by rw [zz_ne ⟨by omega, by omega⟩]; exact decide_eq_false (by omega)) ?_
      refine jx (pc' := 77) (L' := [_, _, _, _, _, _, _, _]) (st' := [_]) 4 rfl ?_
      try simp (disch := omega) only [kz, kzl0, kzl1, kzb, kzs, zI_add, zI_sub, zI_neg, zI_mul, zL_i, zI_l, zL_add, zL_sub, zL_neg]
      refine jin (pc' := 80) 169 rfl rfl rfl rfl (by rfl) ?_
      refine jx (pc' := 81) (L' := [_, _, _, _, _, _, _, _]) (st' := [_]) 1 rfl ?_
      refine jgf (pc' := 84) K.ob rfl rfl rfl rfl rfl ?_
      refine jx (pc' := 86) (L' := [_, _, _, _, _, _, _, _]) (st' := [.int (zI 9), _]) 1 rfl ?_
      refine jR_p (pc' := 87) 9 K rfl rfl (by omega) (by omega)  rfl ?_
      refine jx (pc' := 89) (L' := [_, _, _, _, _, _, _, _]) (st' := [.int (zI 40), _]) 1 rfl ?_
      have t158 : ∀ (h1 : ix_H) (fr : Bool) (gd : Bool) (vv : Int) (s' : Nat) (r8 : Dm) (V : Nat) (mo ng : Bool) (sp : Nat) (il : Bool) (rs pt rl wo : Nat → Nat), o.2 = (if gd then (if exa then s' else 0) else 1) → o.1 = (if gd then vv else -9223372036854775808) → (RI S0 h1 (va_up R 8 r8) V (0) dr ra (s') tr mo ng sp sz wr il rs pt rl wo tx ou) → ix_E 249 158 [some (.ref 98), some (.int (zI x)), some (.int (zI w)), some (.int (bI exa)), some (.long (zL vv)), none, some (.int (bI true)), some (.int (bI fr))] [.int (bI gd)] h1 Q := by
        intro h fr gd vv s' r8 V mo ng sp il rs pt rl wo ho2 ho1 K
        refine jx (pc' := 161) (L' := [_, _, _, _, _, _, _, _]) (st' := [_]) 2 rfl ?_
        cases exa
        · skip
          refine jin (pc' := 164) 169 rfl rfl rfl rfl (by rfl) ?_
          refine jx (pc' := 166) (L' := [_, _, _, _, _, _, _, _]) (st' := [.int (zI 0), _]) 2 rfl ?_
          refine jp_si (pc' := 169) 0 K (by first | rfl | (congr 1; omega)) rfl rfl rfl rfl fun h K => ?_
          exact t169 h gd vv 0 r8 V mo ng sp il rs pt rl wo _ ho2 ho1 K
        · skip
          refine jit (pc' := 169) rfl rfl rfl (by rfl) ?_
          exact t169 h gd vv s' r8 V mo ng sp il rs pt rl wo _ ho2 ho1 K
      have K8 : (RI S0 h (va_up R 8 (R 8)) V (0) dr ra (0) tr mo ng sp sz wr (false) rs pt rl wo tx ou) := by
        rw [va_up_id rfl]
        exact K
      have tfar : (40 < (R 9).2.2.2.1 ∧ ¬ (R 9).2.2.2.2 = 0) → ix_E 249 101 [some (.ref 98), some (.int (zI x)), some (.int (zI w)), some (.int (bI exa)), some (.long (zL 0)), none, some (.int (bI true)), none] [] h Q := by
        intro hi
        rw [if_pos (Or.inr hi)] at eo
        refine jx (pc' := 110) (L' := [_, _, _, _, _, _, _, _]) (st' := [_]) 4 rfl ?_
        try simp (disch := omega) only [kz, kzl0, kzl1, kzb, kzs, zI_add, zI_sub, zI_neg, zI_mul, zL_i, zI_l, zL_add, zL_sub, zL_neg]
        refine jit (pc' := 132) rfl rfl rfl (by rfl) ?_
        refine jx (pc' := 134) (L' := [_, _, _, _, _, _, _, _]) (st' := [_]) 1 rfl ?_
        refine jit (pc' := 146) rfl rfl rfl (by rfl) ?_
        refine jx (pc' := 147) (L' := [_, _, _, _, _, _, _, _]) (st' := [_]) 1 rfl ?_
        refine jgf (pc' := 150) K.ob rfl rfl rfl rfl rfl ?_
        refine jit (pc' := 157) rfl rfl rfl (by rfl) ?_
        refine jx (pc' := 158) (L' := [_, _, _, _, _, _, _, _]) (st' := [.int (zI 0)]) 1 rfl ?_
        exact t158 h true false 0 0 (R 8) V mo ng sp false rs pt rl wo (by rw [eo]; rfl) (by rw [eo]; rfl) K8
      have tnear : ¬ (40 < (R 9).2.2.2.1 ∧ ¬ (R 9).2.2.2.2 = 0) → ix_E 249 105 [some (.ref 98), some (.int (zI x)), some (.int (zI w)), some (.int (bI exa)), some (.long (zL 0)), none, some (.int (bI true)), none] [] h Q := by
        intro hi
        rw [if_neg (fun n => n.elim (fun m => m e0) hi)] at eo
        have t127 : ∀ mv : Int, mv = (mm : Int) → ix_E 249 127 [some (.ref 98), some (.int (zI x)), some (.int (zI w)), some (.int (bI exa)), some (.long (zL 0)), none, some (.int (bI true)), some (.int (bI false))] [.int (zI mv), .ref 98] h Q := by
          intro mv hmv
          refine jcv (pc' := 130) 250 [_] [] K.ob rfl rfl rfl rfl rfl rfl rfl rfl ?_
          refine m_wholeOf (m := mm) K vx e0 hmv hm5 fun h V mo ng sp rs pt rl wo K => jk ?_
          have hwV : whV mm (R 9) = if 9223372036854775808 ≤ whC mm (R 9) then -9223372036854775808 else if (R 9).2.2.1 then -(whC mm (R 9) : Int) else (whC mm (R 9) : Int) := rfl
          have hwL : whL mm (R 9) = (decide (whC mm (R 9) = 9223372036854775808) && (R 9).2.2.1) := rfl
          have hlr : lr (whV mm (R 9)) := by
            rw [hwV]
            split
            · exact ⟨by decide, by decide⟩
            · split
              · exact ⟨by omega, by omega⟩
              · exact ⟨by omega, by omega⟩
          have hlr1 := hlr.1
          have hlr2 := hlr.2
          generalize whV mm (R 9) = vv at *
          generalize whL mm (R 9) = il at *
          generalize whC mm (R 9) = C at *
          rw [show (if tpI (R 9).2.2.2.1 0 (R 9).2.2.2.2 then 0 ||| 16 else 0) = (if tpI (R 9).2.2.2.1 0 (R 9).2.2.2.2 then 16 else 0) from rfl] at K
          generalize hti : tpI (R 9).2.2.2.1 0 (R 9).2.2.2.2 = ti at *
          have good : (¬ vv = -9223372036854775808 ∨ il = true) → o = (vv, if exa = true ∧ ti = true then 16 else 0) := fun hg => by
            by_cases h1 : 9223372036854775808 ≤ C
            · rw [if_pos h1] at hwV
              have hil : il = true := hg.elim (fun n => absurd hwV n) id
              rw [hil] at hwL
              have h2 : C = 9223372036854775808 ∧ (R 9).2.2.1 = true := by
                have := hwL.symm
                rw [Bool.and_eq_true] at this
                exact ⟨of_decide_eq_true this.1, this.2⟩
              rw [if_neg (fun n => n.2 ⟨h2.2, h2.1⟩), if_pos h2.2] at eo
              rw [eo, hwV, h2.1]
              rfl
            · rw [if_neg (fun n => h1 n.1)] at eo
              rw [if_neg h1] at hwV
              rw [eo, hwV]
          have bad : vv = -9223372036854775808 → il = false → o = (-9223372036854775808, 1) := fun hg hil => by
            have h1 : 9223372036854775808 ≤ C := by
              refine Nat.le_of_not_lt fun n => ?_
              rw [if_neg (by omega)] at hwV
              rw [hwV] at hg
              split at hg <;> omega
            rw [if_pos ⟨h1, fun n => by
              rw [hil, n.1, n.2] at hwL
              exact absurd hwL (by decide)⟩] at eo
            exact eo
          have tg : (¬ vv = -9223372036854775808 ∨ il = true) → ix_E 249 153 [some (.ref 98), some (.int (zI x)), some (.int (zI w)), some (.int (bI exa)), some (.long (zL vv)), none, some (.int (bI true)), some (.int (bI false))] [] h Q := by
            intro hg
            have eo := good hg
            refine jx (pc' := 158) (L' := [_, _, _, _, _, _, _, _]) (st' := [.int (zI 1)]) 2 rfl ?_
            refine t158 h false true vv _ _ V mo ng sp il rs pt rl wo ?_ ?_ K
            · rw [eo, if_pos rfl]
              cases exa <;> cases ti <;> rfl
            · rw [eo, if_pos rfl]
          refine jx (pc' := 134) (L' := [_, _, _, _, _, _, _, _]) (st' := [_]) 2 rfl ?_
          refine jin (pc' := 137) 146 rfl rfl rfl rfl (by rfl) ?_
          refine jx (pc' := 143) (L' := [_, _, _, _, _, _, _, _]) (st' := [_]) 3 rfl ?_
          try simp (disch := omega) only [kMm9223372036854775808, kz, kzl0, kzl1, kzb, kzs, zI_add, zI_sub, zI_neg, zI_mul, zL_i, zI_l, zL_add, zL_sub, zL_neg]
          by_cases hm : vv = -9223372036854775808
          · skip
            refine jin (pc' := 146) 153 rfl rfl rfl rfl (by rw [zl_ne ⟨by omega, by omega⟩ ⟨by omega, by omega⟩]; exact decide_eq_false (by omega)) ?_
            refine jx (pc' := 147) (L' := [_, _, _, _, _, _, _, _]) (st' := [_]) 1 rfl ?_
            refine jgf (pc' := 150) K.ob rfl rfl rfl rfl rfl ?_
            cases hil : il
            · rw [hil] at K bad
              have eo := bad hm rfl
              refine jit (pc' := 157) rfl rfl rfl (by rfl) ?_
              refine jx (pc' := 158) (L' := [_, _, _, _, _, _, _, _]) (st' := [.int (zI 0)]) 1 rfl ?_
              refine t158 h false false vv _ _ V mo ng sp false rs pt rl wo ?_ ?_ K
              · rw [eo]; rfl
              · rw [eo]; rfl
            · skip
              refine jin (pc' := 153) 157 rfl rfl rfl rfl (by rfl) ?_
              exact tg (Or.inr hil)
          · skip
            refine jit (pc' := 153) rfl rfl rfl (by rw [zl_ne ⟨by omega, by omega⟩ ⟨by omega, by omega⟩]; exact decide_eq_true (by omega)) ?_
            exact tg (Or.inl hm)
        refine jx (pc' := 110) (L' := [_, _, _, _, _, _, _, _]) (st' := [_]) 3 rfl ?_
        try simp (disch := omega) only [kz, kzl0, kzl1, kzb, kzs, zI_add, zI_sub, zI_neg, zI_mul, zL_i, zI_l, zL_add, zL_sub, zL_neg]
        refine jin (pc' := 113) 132 rfl rfl rfl rfl (by rfl) ?_
        refine jx (pc' := 116) (L' := [_, _, _, _, _, _, _, _]) (st' := [.int (zI 5), _, _]) 3 rfl ?_
        by_cases w5 : w = 5
        · rw [if_pos w5] at hmm
          refine jcn (pc' := 119) 126 rfl rfl rfl rfl (by rw [zc_ne ⟨by omega, by omega⟩ ⟨by omega, by omega⟩]; exact decide_eq_false (by omega)) ?_
          refine jx (pc' := 120) (L' := [_, _, _, _, _, _, _, _]) (st' := [_, _]) 1 rfl ?_
          refine jgf (pc' := 123) K.ob rfl rfl rfl rfl rfl ?_
          refine jx (pc' := 127) (L' := [_, _, _, _, _, _, _, _]) (st' := [_, _]) 1 rfl ?_
          exact t127 _ (by rw [hmm])
        · rw [if_neg w5] at hmm
          refine jct (pc' := 126) rfl rfl rfl (by rw [zc_ne ⟨by omega, by omega⟩ ⟨by omega, by omega⟩]; exact decide_eq_true (by omega)) ?_
          refine jx (pc' := 127) (L' := [_, _, _, _, _, _, _, _]) (st' := [_, _]) 1 rfl ?_
          exact t127 _ (by omega)
      by_cases e40 : 40 < (R 9).2.2.2.1
      · skip
        refine jcn (pc' := 92) 105 rfl rfl rfl rfl (by rw [zc_le ⟨by omega, by omega⟩ ⟨by omega, by omega⟩]; exact decide_eq_false (by omega)) ?_
        refine jx (pc' := 95) (L' := [_, _, _, _, _, _, _, _]) (st' := [.int (zI 9), _]) 2 rfl ?_
        refine jcv (pc' := 98) 197 [.int (zI 9)] [] K.ob rfl rfl rfl rfl rfl rfl rfl rfl ?_
        refine m_isZero (r := 9) K rfl (by decide) (jk ?_)
        by_cases hz : (R 9).2.2.2.2 = 0
        · skip
          refine jit (pc' := 105) rfl rfl rfl (by rw [bz_ne, decide_eq_true ⟨e0, hz⟩]) ?_
          exact tnear (fun n => n.2 hz)
        · skip
          refine jin (pc' := 101) 105 rfl rfl rfl rfl (by rw [bz_ne, decide_eq_false (fun n => hz n.2)]) ?_
          exact tfar ⟨e40, hz⟩
      · skip
        refine jct (pc' := 105) rfl rfl rfl (by rw [zc_le ⟨by omega, by omega⟩ ⟨by omega, by omega⟩]; exact decide_eq_true (by omega)) ?_
        exact tnear (fun n => e40 n.1)
    · have e1 : ¬ swp (R 9).2.1 = 0 := fun n => e0 (swp_0.mp n)
      rw [if_pos (Or.inl e0)] at eo
      refine jit (pc' := 72) rfl rfl rfl (by rw [zz_ne ⟨by omega, by omega⟩]; exact decide_eq_true (by omega)) ?_
      refine jx (pc' := 77) (L' := [_, _, _, _, _, _, _, _]) (st' := [_]) 3 rfl ?_
      try simp (disch := omega) only [kz, kzl0, kzl1, kzb, kzs, zI_add, zI_sub, zI_neg, zI_mul, zL_i, zI_l, zL_add, zL_sub, zL_neg]
      refine jit (pc' := 169) rfl rfl rfl (by rfl) ?_
      refine t169 h false 0 0 (R 8) V mo ng sp false rs pt rl wo _ (by rw [eo]; rfl) (by rw [eo]; rfl) ?_
      rw [va_up_id rfl]
      exact K
  have t22 : ∀ bd : Bool, bd = decide (¬ cWi x w) → ix_E 249 22 [some (.ref 98), some (.int (zI x)), some (.int (zI w)), some (.int (bI exa)), none, none, none, none] [.int (bI bd), .ref 98] h Q := by
    intro bd hbd
    refine jcv (pc' := 25) 168 [_] [] K.ob rfl rfl rfl rfl rfl rfl rfl rfl ?_
    refine m_fails K fun h K => jk ?_
    cases bd
    · have hc : cWi x w := Classical.not_not.mp (of_decide_eq_false hbd.symm)
      refine jit (pc' := 30) rfl rfl rfl (by rfl) ?_
      exact t30 hc h K
    · have hc := of_decide_eq_true hbd.symm
      refine jin (pc' := 28) 30 rfl rfl rfl rfl (by rfl) ?_
      refine jx (pc' := 29) (L' := [_, _, _, _, _, _, _, _]) (st' := [.long (zL 0)]) 1 rfl ?_
      refine ix_qr _ rfl rfl rfl ?_
      exact q0 hc _ ⟨R, si, hR, K.rj⟩
  have bad : ¬ cWi x w → ix_E 249 17 [some (.ref 98), some (.int (zI x)), some (.int (zI w)), some (.int (bI exa)), none, none, none, none] [.ref 98] h Q := by
    intro hn
    refine jx (pc' := 22) (L' := [_, _, _, _, _, _, _, _]) (st' := [.int (zI 1), _]) 2 rfl ?_
    exact t22 true (decide_eq_true hn).symm
  refine jx (pc' := 2) (L' := [_, _, _, _, _, _, _, _]) (st' := [_, _]) 2 rfl ?_
  refine jcs (pc' := 5) 181 [_] [_] rfl rfl rfl rfl rfl rfl rfl rfl ?_
  refine m_isSource hx (jk ?_)
  by_cases h3 : 0 ≤ x ∧ x ≤ 8
  · skip
    refine jin (pc' := 8) 17 rfl rfl rfl rfl (by rw [bz_eq, decide_eq_true h3]; rfl) ?_
    refine jx (pc' := 9) (L' := [_, _, _, _, _, _, _, _]) (st' := [_, _]) 1 rfl ?_
    by_cases h4 : w < 0
    · skip
      refine jit (pc' := 17) rfl rfl rfl (by rw [zz_lt ⟨by omega, by omega⟩]; exact decide_eq_true (by omega)) ?_
      exact bad (fun n => by have := n.2.1; omega)
    · skip
      refine jin (pc' := 12) 17 rfl rfl rfl rfl (by rw [zz_lt ⟨by omega, by omega⟩]; exact decide_eq_false (by omega)) ?_
      refine jx (pc' := 14) (L' := [_, _, _, _, _, _, _, _]) (st' := [.int (zI 5), _, _]) 2 rfl ?_
      by_cases h5 : w ≤ 5
      · skip
        refine jct (pc' := 21) rfl rfl rfl (by rw [zc_le ⟨by omega, by omega⟩ ⟨by omega, by omega⟩]; exact decide_eq_true (by omega)) ?_
        refine jx (pc' := 22) (L' := [_, _, _, _, _, _, _, _]) (st' := [.int (zI 0), _]) 1 rfl ?_
        exact t22 false (decide_eq_false (fun n => n ⟨h3, by omega, h5⟩)).symm
      · skip
        refine jcn (pc' := 17) 21 rfl rfl rfl rfl (by rw [zc_le ⟨by omega, by omega⟩ ⟨by omega, by omega⟩]; exact decide_eq_false (by omega)) ?_
        exact bad (fun n => h5 n.2.2)
  · skip
    refine jit (pc' := 17) rfl rfl rfl (by rw [bz_eq, decide_eq_false h3]; rfl) ?_
    exact bad (fun n => h3 n.1)
end REF
