/-! ===== the reference: number, log, compare, ordered, kind, alike, and the small calls ===== -/
/-- where the units lie in the row -/
def u5 : Nat := 12500
theorem u5_e : u5 = 12500 := rfl
theorem u5_p (u : Nat) : u * 10 ^ u5 = pV 0 u := congrArg (fun k => u * 10 ^ k) (show u5 = (12500 + (0 : Int)).toNat from rfl)
abbrev cFm (F : Nat → Dm) (x y : Int) : Prop := (0 ≤ x ∧ x ≤ 8) ∧ (0 ≤ y ∧ y ≤ 8) ∧ (F x.toNat).1 = (F y.toNat).1
section REF
variable {h : ix_H} {Q : ix_O → ix_H → Prop} {S0 : Nat → AC} {R F : Nat → Dm} {V cd dr ra si tr : Nat} {mo ng : Bool} {sp sz wr : Nat} {il : Bool} {rs pt rl wo tx ou : Nat → Nat} {j x y z w a0 b0 : Int} {r f s m a c : Nat} {b t : Bool} {hi lo : Int32}
theorem m_number (K : (RK S0 h F cd dr ra tr sz wr tx ou)) (hdr : dr < 5) (htr : tr < 32) (hw : zr w) (hx : zr x) (q0 : ¬ cNu x w → ∀ h', (RK S0 h' F (1) dr ra tr sz wr tx ou) → Q (.inl (some (.int (zI 0)))) h') (q1 : cNu x w → (fwR dr w.toNat (wl hi lo)).2 &&& tr = 0 → ∀ h', (RK S0 h' (va_up (va_up F 8 (fwR dr w.toNat (wl hi lo)).1) x.toNat (fwR dr w.toNat (wl hi lo)).1) (0) dr (ra ||| (fwR dr w.toNat (wl hi lo)).2) tr sz wr tx ou) → Q (.inl (some (.int (zI ((fwR dr w.toNat (wl hi lo)).2 : Nat))))) h') (q2 : cNu x w → ¬ (fwR dr w.toNat (wl hi lo)).2 &&& tr = 0 → ∀ h', (RK S0 h' (va_up F 8 (fwR dr w.toNat (wl hi lo)).1) (2) dr (ra ||| (fwR dr w.toNat (wl hi lo)).2) tr sz wr tx ou) → Q (.inl (some (.int (zI 0)))) h') : ix_M 248 [.ref 98, .int (zI x), .int (zI w), .int hi, .int lo] h Q := by
  obtain ⟨R, si, hR, V, mo, ng, sp, il, rs, pt, rl, wo, K⟩ := K
  have hu5 := u5_e
  have t28 : cNu x w → ∀ h1, (RI S0 h1 R V (0) dr ra si tr mo ng sp sz wr il rs pt rl wo tx ou) → ix_E 248 28 [some (.ref 98), some (.int (zI x)), some (.int (zI w)), some (.int hi), some (.int lo), none, none, none, none, none] [] h1 Q := by
    intro hc h K
    have q1 := q1 hc
    have q2 := q2 hc
    obtain ⟨⟨x1, x2⟩, ⟨w1, w2⟩⟩ := hc
    have hwf : w = ((w.toNat : Nat) : Int) := by omega
    have hf3 : w.toNat < 3 := by omega
    have hwb := wl_b hi lo
    have hfl := fl_fw (dir := dr) (f := w.toNat) (v := wl hi lo) hf3
    have eo : fwR dr w.toNat (wl hi lo) = fwR dr w.toNat (wl hi lo) := rfl
    conv at eo => rhs; unfold fwR
    generalize fwR dr w.toNat (wl hi lo) = o at *
    obtain ⟨u, g, hu, hg⟩ : ∃ (u : Nat) (g : Bool), wl hi lo = (if g then -(u : Int) else (u : Int)) ∧ (g = true → 0 < u) := by
      by_cases h0 : wl hi lo < 0
      · exact ⟨(wl hi lo).natAbs, true, by rw [if_pos rfl]; omega, fun _ => by omega⟩
      · exact ⟨(wl hi lo).natAbs, false, by rw [if_neg (by decide)]; omega, fun z => nomatch z⟩
    have hub : u < 9223372036854775808 ∨ (g = true ∧ u = 9223372036854775808) := by
      cases g
      · rw [if_neg (by decide)] at hu; left; omega
      · rw [if_pos rfl] at hu
        by_cases h0 : u = 9223372036854775808
        · exact Or.inr ⟨rfl, h0⟩
        · left; omega
    have hu19 : u < 10 ^ 19 := by
      have : (10 : Nat) ^ 19 = 10000000000000000000 := by decide
      rcases hub with z | z <;> omega
    have hgn : decide (wl hi lo < 0) = g := by
      cases g
      · rw [if_neg (by decide)] at hu; exact decide_eq_false (by omega)
      · rw [if_pos rfl] at hu; exact decide_eq_true (by have := hg rfl; omega)
    have hua : (wl hi lo).natAbs = u := by
      cases g
      · rw [if_neg (by decide)] at hu; omega
      · rw [if_pos rfl] at hu; omega
    rw [hgn, hua] at eo
    have eo2 : o = rr w.toNat dr false g false 0 (pV 0 u) := by
      rw [eo]
      refine rdo_p (A := (w.toNat, 0, false, 0, 0)) hf3 (Nat.lt_of_lt_of_le hu19 (pl (by decide))) (by decide) (fun z => ?_)
      cases g
      · rfl
      · have := hg rfl; omega
    have loop : ∀ n k : Nat, k + n = 20 → ∀ (h1 : ix_H) (l8 : Option Value), (RI S0 h1 R (u % 10 ^ k * 10 ^ u5) (0) dr ra (0) tr (false) (g) sp sz wr il rs pt rl wo tx ou) → ix_E 248 71 [some (.ref 98), some (.int (zI x)), some (.int (zI w)), some (.int hi), some (.int lo), some (.long (zL (if g then -((u / 10 ^ k : Nat) : Int) else ((u / 10 ^ k : Nat) : Int)))), none, some (.int (zI (k : Int))), l8, none] [] h1 Q := by
      have fin : ∀ (k : Nat) (h1 : ix_H) (l8 : Option Value), u / 10 ^ k = 0 → (RI S0 h1 R (u % 10 ^ k * 10 ^ u5) (0) dr ra (0) tr (false) (g) sp sz wr il rs pt rl wo tx ou) → ix_E 248 127 [some (.ref 98), some (.int (zI x)), some (.int (zI w)), some (.int hi), some (.int lo), some (.long (zL (if g then -((u / 10 ^ k : Nat) : Int) else ((u / 10 ^ k : Nat) : Int)))), none, some (.int (zI (k : Int))), l8, none] [] h1 Q := by
        intro k h l8 hz K
        have hlt := Nat.lt_of_div_eq_zero (pp0 k) hz
        rw [Nat.mod_eq_of_lt hlt] at K
        refine jx (pc' := 131) (L' := [_, _, _, _, _, _, _, _, _, _]) (st' := [.int (zI 0), .int (zI 0), _, _]) 4 rfl ?_
        refine jcv (pc' := 134) 208 [_, .int (zI 0), .int (zI 0)] [] K.ob rfl rfl rfl rfl rfl rfl rfl rfl ?_
        refine m_roundR (zs := false) (W := pV 0 u) K (u5_p u) hwf hf3 hdr ⟨by decide, by decide⟩ (fun _ => rfl) fun h K => jk ?_
        rw [← eo2, Nat.zero_or] at K
        obtain ⟨V, mo, ng, sp, il, rs, pt, rl, wo, K⟩ := K
        refine jx (pc' := 136) (L' := [_, _, _, _, _, _, _, _, _, _]) (st' := [_, _]) 2 rfl ?_
        refine jcv (pc' := 139) 233 [_] [] K.ob rfl rfl rfl rfl rfl rfl rfl rfl ?_
        refine m_overK (d := x.toNat) K.rj (fun i hi => hR i (by omega)) (by omega) (by omega) hfl htr (fun h0 h K => jk ?_) (fun h0 h K => jk ?_)
        · skip
          refine jri rfl rfl ?_
          exact q1 h0 _ K
        · skip
          refine jri rfl rfl ?_
          exact q2 h0 _ K
      intro n
      induction n with
      | zero =>
        intro k hk h l8 K
        obtain rfl : k = 20 := by omega
        have hz : u / 10 ^ 20 = 0 := Nat.div_eq_of_lt (Nat.lt_of_lt_of_le hu19 (pl (by decide)))
        have e := fin 20 h l8 hz K
        rw [hz] at e ⊢
        refine jx (pc' := 75) (L' := [_, _, _, _, _, _, _, _, _, _]) (st' := [_]) 3 rfl ?_
        try simp (disch := omega) only [kz, kzl0, kzl1, kzb, kzs, zI_add, zI_sub, zI_neg, zI_mul, zL_i, zI_l, zL_add, zL_sub, zL_neg]
        cases g
        · skip
          refine jit (pc' := 127) rfl rfl rfl (by rfl) ?_
          exact e
        · skip
          refine jit (pc' := 127) rfl rfl rfl (by rfl) ?_
          exact e
      | succ n ih =>
        intro k hk h l8 K
        have hle : u / 10 ^ k ≤ u := Nat.div_le_self _ _
        have hdd : u / 10 ^ (k + 1) = u / 10 ^ k / 10 := by rw [Nat.pow_succ, Nat.div_div_eq_div_mul]
        have hbk : u / 10 ^ k < 9223372036854775808 ∨ (g = true ∧ u / 10 ^ k = 9223372036854775808) := by
          rcases hub with z | z
          · left; omega
          · by_cases h0 : u / 10 ^ k = 9223372036854775808
            · exact Or.inr ⟨z.1, h0⟩
            · left; omega
        by_cases hz : u / 10 ^ k = 0
        · have e := fin k h l8 hz K
          rw [hz] at e ⊢
          refine jx (pc' := 75) (L' := [_, _, _, _, _, _, _, _, _, _]) (st' := [_]) 3 rfl ?_
          try simp (disch := omega) only [kz, kzl0, kzl1, kzb, kzs, zI_add, zI_sub, zI_neg, zI_mul, zL_i, zI_l, zL_add, zL_sub, zL_neg]
          cases g
          · skip
            refine jit (pc' := 127) rfl rfl rfl (by rfl) ?_
            exact e
          · skip
            refine jit (pc' := 127) rfl rfl rfl (by rfl) ?_
            exact e
        · have hdg := dg_b u k
          have e3 : sd (u % 10 ^ k * 10 ^ u5) (u5 + k) (u / 10 ^ k % 10) = u % 10 ^ (k + 1) * 10 ^ u5 := by
            have hm : u % 10 ^ k * 10 ^ u5 < 10 ^ (u5 + k) := by
              rw [Nat.pow_add, Nat.mul_comm]
              exact Nat.mul_lt_mul_of_pos_left (Nat.mod_lt _ (pp0 k)) (pp0 _)
            unfold sd
            rw [Nat.div_eq_of_lt (Nat.lt_of_lt_of_le hm (pl (by omega))), Nat.mod_eq_of_lt hm, Nat.zero_mul, Nat.zero_add, mod_s, Nat.add_mul, Nat.mul_assoc, ← Nat.pow_add, Nat.add_comm k]
          have nxt : ∀ (h1 : ix_H) (l8 : Option Value), (RI S0 h1 R (u % 10 ^ (k + 1) * 10 ^ u5) (0) dr ra (0) tr (false) (g) sp sz wr il rs pt rl wo tx ou) → ix_E 248 113 [some (.ref 98), some (.int (zI x)), some (.int (zI w)), some (.int hi), some (.int lo), some (.long (zL (if g then -((u / 10 ^ k : Nat) : Int) else ((u / 10 ^ k : Nat) : Int)))), none, some (.int (zI (k : Int))), l8, none] [] h1 Q := by
            intro h l8 K
            refine jx (pc' := 118) (L' := [_, _, _, _, _, _, _, _, _, _]) (st' := [_, _]) 2 rfl ?_
            try simp (disch := omega) only [kM10, kz, kzl0, kzl1, kzb, kzs, zI_add, zI_sub, zI_neg, zI_mul, zL_i, zI_l, zL_add, zL_sub, zL_neg]
            refine jldiv (pc' := 119) rfl rfl (by decide) rfl ?_
            rw [zLdv g hbk, ← hdd]
            refine jx (pc' := 71) (L' := [_, _, _, _, _, _, _, _, _, _]) (st' := []) 3 rfl ?_
            try simp (disch := omega) only [kz, kzl0, kzl1, kzb, kzs, zI_add, zI_sub, zI_neg, zI_mul, zL_i, zI_l, zL_add, zL_sub, zL_neg]
            rw [show (k : Int) + 1 = ((k + 1 : Nat) : Int) by omega]
            exact ih (k + 1) (by omega) h l8 K
          have hX : -9223372036854775808 ≤ (if g then -((u / 10 ^ k : Nat) : Int) else ((u / 10 ^ k : Nat) : Int)) ∧ (if g then -((u / 10 ^ k : Nat) : Int) else ((u / 10 ^ k : Nat) : Int)) < 9223372036854775808 ∧ ¬ (if g then -((u / 10 ^ k : Nat) : Int) else ((u / 10 ^ k : Nat) : Int)) = 0 := by
            clear nxt e3 K ih
            generalize u / 10 ^ k = p at *
            cases g
            · have h' : p < 9223372036854775808 := hbk.elim id (fun z => nomatch z.1)
              rw [if_neg (by decide)]
              omega
            · have h' : p ≤ 9223372036854775808 := by rcases hbk with z | z <;> omega
              rw [if_pos rfl]
              omega
          refine jx (pc' := 75) (L' := [_, _, _, _, _, _, _, _, _, _]) (st' := [_]) 3 rfl ?_
          try simp (disch := omega) only [kz, kzl0, kzl1, kzb, kzs, zI_add, zI_sub, zI_neg, zI_mul, zL_i, zI_l, zL_add, zL_sub, zL_neg]
          refine jin (pc' := 78) 127 rfl rfl rfl rfl (by rw [zl_eq ⟨hX.1, hX.2.1⟩ ⟨by decide, by decide⟩]; exact decide_eq_false hX.2.2) ?_
          refine jx (pc' := 83) (L' := [_, _, _, _, _, _, _, _, _, _]) (st' := [_, _]) 2 rfl ?_
          try simp (disch := omega) only [kM10, kz, kzl0, kzl1, kzb, kzs, zI_add, zI_sub, zI_neg, zI_mul, zL_i, zI_l, zL_add, zL_sub, zL_neg]
          refine jlrem (pc' := 84) rfl rfl (by decide) rfl ?_
          rw [zLrm g hbk]
          refine jx (pc' := 87) (L' := [_, _, _, _, _, _, _, _, _, _]) (st' := [_]) 2 rfl ?_
          refine jgf (pc' := 90) K.ob rfl rfl rfl rfl rfl ?_
          refine jx (pc' := 100) (L' := [_, _, _, _, _, _, _, _, _, _]) (st' := [_, _, _]) 6 rfl ?_
          try simp (disch := omega) only [kz, kzl0, kzl1, kzb, kzs, zI_add, zI_sub, zI_neg, zI_mul, zL_i, zI_l, zL_add, zL_sub, zL_neg]
          cases hgb : g
          · subst hgb
            simp only [Bool.false_eq_true, if_false] at nxt ⊢
            refine jit (pc' := 109) rfl rfl rfl (by rw [zl_ge ⟨by omega, by omega⟩ ⟨by omega, by omega⟩]; exact decide_eq_true (by omega)) ?_
            refine jx (pc' := 112) (L' := [_, _, _, _, _, _, _, _, _, _]) (st' := [_, _, _]) 2 rfl ?_
            try simp (disch := omega) only [kz, kzl0, kzl1, kzb, kzs, zI_add, zI_sub, zI_neg, zI_mul, zL_i, zI_l, zL_add, zL_sub, zL_neg]
            refine jW_r (pc' := 113) ((u5+k)) ((u/10^k%10)) K (by first | rfl | (congr 1; omega)) rfl rfl (by omega) (by omega)  rfl (by omega) fun h K => ?_
            rw [e3] at K
            exact nxt h _ K
          · subst hgb
            simp only [if_true] at nxt ⊢
            by_cases hd0 : u / 10 ^ k % 10 = 0
            · skip
              refine jit (pc' := 109) rfl rfl rfl (by rw [zl_ge ⟨by omega, by omega⟩ ⟨by omega, by omega⟩]; exact decide_eq_true (by omega)) ?_
              refine jx (pc' := 112) (L' := [_, _, _, _, _, _, _, _, _, _]) (st' := [_, _, _]) 2 rfl ?_
              try simp (disch := omega) only [kz, kzl0, kzl1, kzb, kzs, zI_add, zI_sub, zI_neg, zI_mul, zL_i, zI_l, zL_add, zL_sub, zL_neg]
              refine jW_r (pc' := 113) ((u5+k)) ((u/10^k%10)) K (congrArg zI (by omega)) rfl rfl (by omega) (by omega)  rfl (by omega) fun h K => ?_
              rw [e3] at K
              exact nxt h _ K
            · skip
              refine jin (pc' := 103) 109 rfl rfl rfl rfl (by rw [zl_ge ⟨by omega, by omega⟩ ⟨by omega, by omega⟩]; exact decide_eq_false (by omega)) ?_
              refine jx (pc' := 112) (L' := [_, _, _, _, _, _, _, _, _, _]) (st' := [_, _, _]) 4 rfl ?_
              try simp (disch := omega) only [kz, kzl0, kzl1, kzb, kzs, zI_add, zI_sub, zI_neg, zI_mul, zL_i, zI_l, zL_add, zL_sub, zL_neg]
              refine jW_r (pc' := 113) ((u5+k)) ((u/10^k%10)) K (congrArg zI (by omega)) rfl rfl (by omega) (by omega)  rfl (by omega) fun h K => ?_
              rw [e3] at K
              exact nxt h _ K
    have t65 : ∀ (h1 : ix_H) (gg : Bool), gg = g → (RI S0 h1 R (0) (0) dr ra (0) tr (false) ng sp sz wr il rs pt rl wo tx ou) → ix_E 248 65 [some (.ref 98), some (.int (zI x)), some (.int (zI w)), some (.int hi), some (.int lo), some (.long (zL (wl hi lo))), none, none, none, none] [.int (bI gg), .ref 98] h1 Q := by
      intro h gg hgg K
      subst hgg
      refine jp_ng (pc' := 68) gg K rfl rfl rfl rfl rfl fun h K => ?_
      refine jx (pc' := 71) (L' := [_, _, _, _, _, _, _, _, _, _]) (st' := []) 2 rfl ?_
      try simp (disch := omega) only [kz, kzl0, kzl1, kzb, kzs, zI_add, zI_sub, zI_neg, zI_mul, zL_i, zI_l, zL_add, zL_sub, zL_neg]
      have e := loop 20 0 (by omega) h none (by rw [Nat.pow_zero, Nat.mod_one, Nat.zero_mul]; exact K)
      rw [Nat.pow_zero, Nat.div_one, ← hu] at e
      exact e
    refine jx (pc' := 30) (L' := [_, _, _, _, _, _, _, _, _, _]) (st' := [.int (zI 0), _]) 2 rfl ?_
    refine jp_si (pc' := 33) 0 K (by first | rfl | (congr 1; omega)) rfl rfl rfl rfl fun h K => ?_
    refine jx (pc' := 46) (L' := [_, _, _, _, _, _, _, _, _, _]) (st' := [_]) 9 rfl ?_
    try simp (disch := omega) only [kM4294967295, kz, kzl0, kzl1, kzb, kzs, zI_add, zI_sub, zI_neg, zI_mul, zL_i, zI_l, zL_add, zL_sub, zL_neg]
    rw [lN_msk, show (zL 32 &&& 63 : Int64) = 32 from by decide, mk64 _ _ (wd_lt lo)]
    change ix_E 248 46 _ [.long (zL (wl hi lo))] h Q
    refine jx (pc' := 49) (L' := [_, _, _, _, _, _, _, _, _, _]) (st' := [_]) 2 rfl ?_
    refine jcv (pc' := 52) 204 [] [] K.ob rfl rfl rfl rfl rfl rfl rfl rfl ?_
    refine m_empty K fun h K => jk ?_
    refine jx (pc' := 57) (L' := [_, _, _, _, _, _, _, _, _, _]) (st' := [_, _]) 4 rfl ?_
    try simp (disch := omega) only [kz, kzl0, kzl1, kzb, kzs, zI_add, zI_sub, zI_neg, zI_mul, zL_i, zI_l, zL_add, zL_sub, zL_neg]
    by_cases h0 : wl hi lo < 0
    · skip
      refine jin (pc' := 60) 64 rfl rfl rfl rfl (by rw [zl_ge ⟨by omega, by omega⟩ ⟨by omega, by omega⟩]; exact decide_eq_false (by omega)) ?_
      refine jx (pc' := 65) (L' := [_, _, _, _, _, _, _, _, _, _]) (st' := [.int (zI 1), _]) 2 rfl ?_
      exact t65 h true (by rw [← hgn, decide_eq_true h0]) K
    · skip
      refine jit (pc' := 64) rfl rfl rfl (by rw [zl_ge ⟨by omega, by omega⟩ ⟨by omega, by omega⟩]; exact decide_eq_true (by omega)) ?_
      refine jx (pc' := 65) (L' := [_, _, _, _, _, _, _, _, _, _]) (st' := [.int (zI 0), _]) 1 rfl ?_
      exact t65 h false (by rw [← hgn, decide_eq_false h0]) K
  have t20 : ∀ bd : Bool, bd = decide (¬ cNu x w) → ix_E 248 20 [some (.ref 98), some (.int (zI x)), some (.int (zI w)), some (.int hi), some (.int lo), none, none, none, none, none] [.int (bI bd), .ref 98] h Q := by
    intro bd hbd
    refine jcv (pc' := 23) 168 [_] [] K.ob rfl rfl rfl rfl rfl rfl rfl rfl ?_
    refine m_fails K fun h K => jk ?_
    cases bd
    · have hc : cNu x w := Classical.not_not.mp (of_decide_eq_false hbd.symm)
      refine jit (pc' := 28) rfl rfl rfl (by rfl) ?_
      exact t28 hc h K
    · have hc := of_decide_eq_true hbd.symm
      refine jin (pc' := 26) 28 rfl rfl rfl rfl (by rfl) ?_
      refine jx (pc' := 27) (L' := [_, _, _, _, _, _, _, _, _, _]) (st' := [.int (zI 0)]) 1 rfl ?_
      refine jri rfl rfl ?_
      exact q0 hc _ ⟨R, si, hR, K.rj⟩
  have bad : ¬ cNu x w → ix_E 248 15 [some (.ref 98), some (.int (zI x)), some (.int (zI w)), some (.int hi), some (.int lo), none, none, none, none, none] [.ref 98] h Q := by
    intro hn
    refine jx (pc' := 20) (L' := [_, _, _, _, _, _, _, _, _, _]) (st' := [.int (zI 1), _]) 2 rfl ?_
    exact t20 true (decide_eq_true hn).symm
  refine jx (pc' := 2) (L' := [_, _, _, _, _, _, _, _, _, _]) (st' := [_, _]) 2 rfl ?_
  refine jcs (pc' := 5) 166 [_] [_] rfl rfl rfl rfl rfl rfl rfl rfl ?_
  refine m_isTarget hx (jk ?_)
  by_cases h2 : 0 ≤ x ∧ x < 8
  · skip
    refine jin (pc' := 8) 15 rfl rfl rfl rfl (by rw [bz_eq, decide_eq_true h2]; rfl) ?_
    refine jx (pc' := 9) (L' := [_, _, _, _, _, _, _, _, _, _]) (st' := [_, _]) 1 rfl ?_
    refine jcs (pc' := 12) 167 [_] [_] rfl rfl rfl rfl rfl rfl rfl rfl ?_
    refine m_isFormat hw (jk ?_)
    by_cases h3 : 0 ≤ w ∧ w < 3
    · skip
      refine jit (pc' := 19) rfl rfl rfl (by rw [bz_ne, decide_eq_true h3]) ?_
      refine jx (pc' := 20) (L' := [_, _, _, _, _, _, _, _, _, _]) (st' := [.int (zI 0), _]) 1 rfl ?_
      exact t20 false (decide_eq_false (fun n => n ⟨h2, h3⟩)).symm
    · skip
      refine jin (pc' := 15) 19 rfl rfl rfl rfl (by rw [bz_ne, decide_eq_false h3]) ?_
      exact bad (fun n => h3 n.2)
  · skip
    refine jit (pc' := 15) rfl rfl rfl (by rw [bz_eq, decide_eq_false h2]; rfl) ?_
    exact bad (fun n => h2 n.1)
end REF
