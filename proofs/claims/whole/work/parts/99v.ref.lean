/-! ===== the reference: take, overflow, round ===== -/
theorem inc_9 {C k : Nat} (h9 : C % 10 ^ k + 1 = 10 ^ k) (hd : C / 10 ^ k % 10 = 9) : C % 10 ^ (k + 1) + 1 = 10 ^ (k + 1) := by
  rw [mod_s, hd, Nat.pow_succ]
  omega
theorem inc_s {C k : Nat} (h9 : C % 10 ^ k + 1 = 10 ^ k) (hd : ¬ C / 10 ^ k % 10 = 9) : sd (C / 10 ^ k * 10 ^ k) k (C / 10 ^ k % 10 + 1) = C + 1 := by
  have a := Nat.div_add_mod C (10 ^ k)
  rw [Nat.mul_comm] at a
  have b := d3 (C / 10 ^ k * 10 ^ k) k
  unfold sd
  rw [Nat.mul_div_cancel _ (pp0 k)] at b
  rw [Nat.mul_mod_left] at b ⊢
  have c : (C / 10 ^ k % 10 + 1) * 10 ^ k = C / 10 ^ k % 10 * 10 ^ k + 10 ^ k := by rw [Nat.add_mul, Nat.one_mul]
  rw [c]
  omega
section REF
variable {h : ix_H} {Q : ix_O → ix_H → Prop} {S0 : Nat → AC} {R : Nat → Dm} {V cd dr ra si tr : Nat} {mo ng : Bool} {sp sz wr : Nat} {il : Bool} {rs pt rl wo tx ou : Nat → Nat} {j x : Int} {r f s m : Nat} {b : Bool}
theorem m_take {q0 : Int} (K : (RI S0 h R V cd dr ra si tr mo ng sp sz wr il rs pt rl wo tx ou)) (u : Nat) (hu : (u : Int) = 12500 + q0) (hq : -12500 ≤ q0 ∧ q0 ≤ 30000) (h1 : b = true → V / 10 ^ u % 10 ^ 40 + 1 < 10 ^ 40) (q : ∀ h', (RI S0 h' (va_up R 8 ((R 8).1, (R 8).2.1, (R 8).2.2.1, (if b then q0 else (R 8).2.2.2.1), V / 10 ^ u % 10 ^ 40 + b.toNat)) V cd dr ra si tr mo ng sp sz wr il rs pt rl wo tx ou) → Q (.inl none) h') : ix_M 214 [.ref 98, .int (zI q0), .int (bI b)] h Q := by
  have hV := K.vb
  generalize hC : V / 10 ^ u % 10 ^ 40 = C at *
  have hC40 : C < 10 ^ 40 := by rw [← hC]; exact Nat.mod_lt _ (pp0 40)
  have up : ∀ n k : Nat, k + n = 40 → b = true → C % 10 ^ k + 1 = 10 ^ k → ∀ h1, (RI S0 h1 (va_up R 8 (sC (R 8) (C / 10 ^ k * 10 ^ k))) V cd dr ra si tr mo ng sp sz wr il rs pt rl wo tx ou) → ix_E 214 62 [some (.ref 98), some (.int (zI q0)), some (.int (bI b)), some (.int (zI (k : Int)))] [] h1 Q := by
    intro n
    induction n with
    | zero =>
      intro k hk hb h9 h K
      obtain rfl : k = 40 := by omega
      rw [Nat.mod_eq_of_lt hC40] at h9
      have := h1 hb
      omega
    | succ n ih =>
      intro k hk hb h9 h K
      have hb10 := dg_b C k
      have ed : C / 10 ^ k * 10 ^ k / 10 ^ k % 10 = C / 10 ^ k % 10 := by rw [Nat.mul_div_cancel _ (pp0 k)]
      refine jx (pc' := 63) (L' := [_, _, _, _]) (st' := [_]) 1 rfl ?_
      refine jgf (pc' := 66) K.ob rfl rfl rfl rfl rfl ?_
      refine jx (pc' := 71) (L' := [_, _, _, _]) (st' := [_, _]) 3 rfl ?_
      try simp (disch := omega) only [kz, kzl0, kzl1, kzb, kzs, zI_add, zI_sub, zI_neg, zI_mul, zL_i, zI_l, zL_add, zL_sub, zL_neg]
      refine jR_d (pc' := 72) 8 k K rfl rfl (by omega) (by omega) (by omega)  rfl ?_
      rw [va_up_self]
      show ix_E 214 72 _ [.int (zI ((C / 10 ^ k * 10 ^ k / 10 ^ k % 10 : Nat) : Int))] h Q
      rw [ed]
      refine jx (pc' := 74) (L' := [_, _, _, _]) (st' := [.int (zI 9), _]) 1 rfl ?_
      by_cases h0 : C / 10 ^ k % 10 = 9
      · skip
        refine jcn (pc' := 77) 94 rfl rfl rfl rfl (by rw [zc_ne ⟨by omega, by omega⟩ ⟨by omega, by omega⟩]; exact decide_eq_false (by omega)) ?_
        refine jx (pc' := 78) (L' := [_, _, _, _]) (st' := [_]) 1 rfl ?_
        refine jgf (pc' := 81) K.ob rfl rfl rfl rfl rfl ?_
        refine jx (pc' := 87) (L' := [_, _, _, _]) (st' := [.int (zI 0), _, _]) 4 rfl ?_
        try simp (disch := omega) only [kz, kzl0, kzl1, kzb, kzs, zI_add, zI_sub, zI_neg, zI_mul, zL_i, zI_l, zL_add, zL_sub, zL_neg]
        refine jW_d (pc' := 88) 8 k 0 K (by first | rfl | (congr 1; omega)) rfl rfl (by omega) (by omega) (by omega)  rfl (by omega) fun h K => ?_
        rw [va_up_self, va_up_up, sd_cl] at K
        refine jx (pc' := 62) (L' := [_, _, _, _]) (st' := []) 2 rfl ?_
        try simp (disch := omega) only [kz, kzl0, kzl1, kzb, kzs, zI_add, zI_sub, zI_neg, zI_mul, zL_i, zI_l, zL_add, zL_sub, zL_neg]
        rw [show (k : Int) + 1 = ((k + 1 : Nat) : Int) by omega]
        exact ih (k + 1) (by omega) hb (inc_9 h9 h0) _ K
      · skip
        refine jct (pc' := 94) rfl rfl rfl (by rw [zc_ne ⟨by omega, by omega⟩ ⟨by omega, by omega⟩]; exact decide_eq_true (by omega)) ?_
        refine jx (pc' := 95) (L' := [_, _, _, _]) (st' := [_]) 1 rfl ?_
        refine jgf (pc' := 98) K.ob rfl rfl rfl rfl rfl ?_
        refine jx (pc' := 104) (L' := [_, _, _, _]) (st' := [_, _, _, _]) 4 rfl ?_
        try simp (disch := omega) only [kz, kzl0, kzl1, kzb, kzs, zI_add, zI_sub, zI_neg, zI_mul, zL_i, zI_l, zL_add, zL_sub, zL_neg]
        refine jR_d (pc' := 105) 8 k K rfl rfl (by omega) (by omega) (by omega)  rfl ?_
        rw [va_up_self]
        show ix_E 214 105 _ (.int (zI ((C / 10 ^ k * 10 ^ k / 10 ^ k % 10 : Nat) : Int)) :: _) h Q
        rw [ed]
        refine jx (pc' := 107) (L' := [_, _, _, _]) (st' := [_, _, _]) 2 rfl ?_
        try simp (disch := omega) only [kz, kzl0, kzl1, kzb, kzs, zI_add, zI_sub, zI_neg, zI_mul, zL_i, zI_l, zL_add, zL_sub, zL_neg]
        refine jW_d (pc' := 108) 8 k ((C/10^k%10+1)) K (by first | rfl | (congr 1; omega)) rfl rfl (by omega) (by omega) (by omega)  rfl (by omega) fun h K => ?_
        rw [va_up_self, va_up_up, inc_s h9 h0] at K
        refine jx (pc' := 109) (L' := [_, _, _, _]) (st' := [_]) 1 rfl ?_
        refine jgf (pc' := 112) K.ob rfl rfl rfl rfl rfl ?_
        refine jx (pc' := 115) (L' := [_, _, _, _]) (st' := [_, .int (zI 8), _]) 2 rfl ?_
        refine jW_p (pc' := 116) 8 q0 K (by first | rfl | (congr 1; omega)) rfl rfl (by omega) (by omega)  rfl ⟨by omega, by omega⟩ fun h K => ?_
        rw [va_up_self, va_up_up] at K
        refine ix_qr _ rfl rfl rfl ?_
        subst hb
        exact q _ K
  have t55 : ∀ h1 l3, (RI S0 h1 (va_up R 8 (sC (R 8) C)) V cd dr ra si tr mo ng sp sz wr il rs pt rl wo tx ou) → ix_E 214 55 [some (.ref 98), some (.int (zI q0)), some (.int (bI b)), l3] [] h1 Q := by
    intro h l3 K
    cases b
    · skip
      refine jx (pc' := 58) (L' := [_, _, _, _]) (st' := [_]) 3 rfl ?_
      try simp (disch := omega) only [kz, kzl0, kzl1, kzb, kzs, zI_add, zI_sub, zI_neg, zI_mul, zL_i, zI_l, zL_add, zL_sub, zL_neg]
      refine jin (pc' := 61) 62 rfl rfl rfl rfl (by rfl) ?_
      refine ix_qr _ rfl rfl rfl ?_
      exact q _ K
    · skip
      refine jx (pc' := 58) (L' := [_, _, _, _]) (st' := [_]) 3 rfl ?_
      try simp (disch := omega) only [kz, kzl0, kzl1, kzb, kzs, zI_add, zI_sub, zI_neg, zI_mul, zL_i, zI_l, zL_add, zL_sub, zL_neg]
      refine jit (pc' := 62) rfl rfl rfl (by rfl) ?_
      refine up 40 0 (by omega) rfl (by rw [Nat.pow_zero, Nat.mod_one]) h ?_
      rw [Nat.pow_zero, Nat.div_one, Nat.mul_one]
      exact K
  have loop : ∀ n k : Nat, k + n = 40 → ∀ h1, (RI S0 h1 (va_up R 8 (sC (R 8) (V / 10 ^ u % 10 ^ k))) V cd dr ra si tr mo ng sp sz wr il rs pt rl wo tx ou) → ix_E 214 8 [some (.ref 98), some (.int (zI q0)), some (.int (bI b)), some (.int (zI (k : Int)))] [] h1 Q := by
    intro n
    induction n with
    | zero =>
      intro k hk h K
      refine jx (pc' := 11) (L' := [_, _, _, _]) (st' := [.int (zI 40), _]) 2 rfl ?_
      refine jct (pc' := 55) rfl rfl rfl (by rw [zc_ge ⟨by omega, by omega⟩ ⟨by omega, by omega⟩]; exact decide_eq_true (by omega)) ?_
      obtain rfl : k = 40 := by omega
      rw [hC] at K
      exact t55 _ _ K
    | succ n ih =>
      intro k hk h K
      have hbd := dg_b V (u + k)
      have edd : V / 10 ^ u / 10 ^ k % 10 = V / 10 ^ (u + k) % 10 := by rw [Nat.div_div_eq_div_mul, ← Nat.pow_add]
      refine jx (pc' := 11) (L' := [_, _, _, _]) (st' := [.int (zI 40), _]) 2 rfl ?_
      refine jcn (pc' := 14) 55 rfl rfl rfl rfl (by rw [zc_ge ⟨by omega, by omega⟩ ⟨by omega, by omega⟩]; exact decide_eq_false (by omega)) ?_
      refine jx (pc' := 24) (L' := [_, _, _, _]) (st' := [.int (zI 25400), _]) 6 rfl ?_
      try simp (disch := omega) only [kz, kzl0, kzl1, kzb, kzs, zI_add, zI_sub, zI_neg, zI_mul, zL_i, zI_l, zL_add, zL_sub, zL_neg]
      by_cases h0 : 25400 ≤ u + k
      · skip
        refine jct (pc' := 55) rfl rfl rfl (by rw [zc_ge ⟨by omega, by omega⟩ ⟨by omega, by omega⟩]; exact decide_eq_true (by omega)) ?_
        have hl : V / 10 ^ u < 10 ^ k := by
          refine (Nat.div_lt_iff_lt_mul (pp0 u)).mpr ?_
          rw [← Nat.pow_add]
          exact Nat.lt_of_lt_of_le hV (pl (by unfold aL; omega))
        have e : V / 10 ^ u % 10 ^ k = C := by
          rw [← hC, Nat.mod_eq_of_lt hl, Nat.mod_eq_of_lt (Nat.lt_of_lt_of_le hl (pl (by omega)))]
        rw [e] at K
        exact t55 _ _ K
      · skip
        refine jcn (pc' := 27) 55 rfl rfl rfl rfl (by rw [zc_ge ⟨by omega, by omega⟩ ⟨by omega, by omega⟩]; exact decide_eq_false (by omega)) ?_
        refine jx (pc' := 28) (L' := [_, _, _, _]) (st' := [_]) 1 rfl ?_
        refine jgf (pc' := 31) K.ob rfl rfl rfl rfl rfl ?_
        refine jx (pc' := 37) (L' := [_, _, _, _]) (st' := [_, _, _]) 4 rfl ?_
        try simp (disch := omega) only [kz, kzl0, kzl1, kzb, kzs, zI_add, zI_sub, zI_neg, zI_mul, zL_i, zI_l, zL_add, zL_sub, zL_neg]
        refine jgf (pc' := 40) K.ob rfl rfl rfl rfl rfl ?_
        refine jx (pc' := 47) (L' := [_, _, _, _]) (st' := [_, _, _, _]) 5 rfl ?_
        try simp (disch := omega) only [kz, kzl0, kzl1, kzb, kzs, zI_add, zI_sub, zI_neg, zI_mul, zL_i, zI_l, zL_add, zL_sub, zL_neg]
        refine jR_r (pc' := 48) ((u+k)) K rfl rfl (by omega) (by omega)  rfl ?_
        refine jW_d (pc' := 49) 8 k ((V/10^(u+k)%10)) K (by first | rfl | (congr 1; omega)) rfl rfl (by omega) (by omega) (by omega)  rfl (by omega) fun h K => ?_
        have e : sd (V / 10 ^ u % 10 ^ k) k (V / 10 ^ (u + k) % 10) = V / 10 ^ u % 10 ^ (k + 1) := by
          have hm := Nat.mod_lt (V / 10 ^ u) (pp0 k)
          unfold sd
          rw [Nat.div_eq_of_lt (Nat.lt_of_lt_of_le hm (pl (by omega))), Nat.mod_eq_of_lt hm, mod_s, edd]
          omega
        rw [va_up_self, va_up_up, e] at K
        refine jx (pc' := 8) (L' := [_, _, _, _]) (st' := []) 2 rfl ?_
        try simp (disch := omega) only [kz, kzl0, kzl1, kzb, kzs, zI_add, zI_sub, zI_neg, zI_mul, zL_i, zI_l, zL_add, zL_sub, zL_neg]
        rw [show (k : Int) + 1 = ((k + 1 : Nat) : Int) by omega]
        exact ih (k + 1) (by omega) _ K
  refine jx (pc' := 3) (L' := [_, _, _, _]) (st' := [.int (zI 8), _]) 2 rfl ?_
  refine jcv (pc' := 6) 175 [.int (zI 8)] [] K.ob rfl rfl rfl rfl rfl rfl rfl rfl ?_
  refine m_clear (r := 8) K rfl (by decide) fun h K => jk ?_
  refine jx (pc' := 8) (L' := [_, _, _, _]) (st' := []) 2 rfl ?_
  try simp (disch := omega) only [kz, kzl0, kzl1, kzb, kzs, zI_add, zI_sub, zI_neg, zI_mul, zL_i, zI_l, zL_add, zL_sub, zL_neg]
  refine loop 40 0 (by omega) h ?_
  rw [Nat.pow_zero, Nat.mod_one]
  exact K
/-- overflow -/
theorem m_overflow {f0 : Int} (K : (RI S0 h R V cd dr ra si tr mo ng sp sz wr il rs pt rl wo tx ou)) (hf0 : f0 = (f : Int)) (hf : f < 3) (hdr : dr < 5) (q : ∀ h', (RI S0 h' (va_up R 8 (f, (rOvf f dr ng).1, ng, (rOvf f dr ng).2.1, (rOvf f dr ng).2.2.1)) V cd dr ra (si ||| 20) tr mo ng sp sz wr il rs pt rl wo tx ou) → Q (.inl none) h') : ix_M 217 [.ref 98, .int (zI f0)] h Q := by
  have fb := f3b hf
  have gb := gEb hf
  have t61 : ∀ (h1 : ix_H) (b : Bool), b = (decide (dr = 0) || decide (dr = 4) || (if ng then decide (dr = 3) else decide (dr = 2))) → (RI S0 h1 R V cd dr ra (si ||| 20) tr mo ng sp sz wr il rs pt rl wo tx ou) → ix_E 217 61 [some (.ref 98), some (.int (zI f0)), none, none] [.int (bI b)] h1 Q := by
    intro h b hb K
    unfold rOvf at q
    rw [← hb] at q
    have loop : ∀ n k : Nat, k + n = fD f → b = false → ∀ h1, (RI S0 h1 (va_up R 8 (f, 0, ng, gE f, 10 ^ k - 1)) V cd dr ra (si ||| 20) tr mo ng sp sz wr il rs pt rl wo tx ou) → ix_E 217 94 [some (.ref 98), some (.int (zI f0)), some (.int (bI b)), some (.int (zI (k : Int)))] [] h1 Q := by
      intro n
      induction n with
      | zero =>
        intro k hk hb h K
        refine jx (pc' := 96) (L' := [_, _, _, _]) (st' := [_, _]) 2 rfl ?_
        refine jcs (pc' := 99) 176 [_] [_] rfl rfl rfl rfl rfl rfl rfl rfl ?_
        refine m_digitsOf hf0 hf (jk ?_)
        refine jct (pc' := 124) rfl rfl rfl (by rw [zc_ge ⟨by omega, by omega⟩ ⟨by omega, by omega⟩]; exact decide_eq_true (by omega)) ?_
        refine ix_qr _ rfl rfl rfl ?_
        obtain rfl : k = fD f := by omega
        subst hb
        exact q _ K
      | succ n ih =>
        intro k hk hb h K
        refine jx (pc' := 96) (L' := [_, _, _, _]) (st' := [_, _]) 2 rfl ?_
        refine jcs (pc' := 99) 176 [_] [_] rfl rfl rfl rfl rfl rfl rfl rfl ?_
        refine m_digitsOf hf0 hf (jk ?_)
        refine jcn (pc' := 102) 124 rfl rfl rfl rfl (by rw [zc_ge ⟨by omega, by omega⟩ ⟨by omega, by omega⟩]; exact decide_eq_false (by omega)) ?_
        refine jx (pc' := 103) (L' := [_, _, _, _]) (st' := [_]) 1 rfl ?_
        refine jin (pc' := 106) 124 rfl rfl rfl rfl (by rw [hb]; rfl) ?_
        refine jx (pc' := 107) (L' := [_, _, _, _]) (st' := [_]) 1 rfl ?_
        refine jgf (pc' := 110) K.ob rfl rfl rfl rfl rfl ?_
        refine jx (pc' := 117) (L' := [_, _, _, _]) (st' := [.int (zI 9), _, _]) 4 rfl ?_
        try simp (disch := omega) only [kz, kzl0, kzl1, kzb, kzs, zI_add, zI_sub, zI_neg, zI_mul, zL_i, zI_l, zL_add, zL_sub, zL_neg]
        refine jW_d (pc' := 118) 8 k 9 K (by first | rfl | (congr 1; omega)) rfl rfl (by omega) (by omega) (by omega)  rfl (by omega) fun h K => ?_
        have e : sd (10 ^ k - 1) k 9 = 10 ^ (k + 1) - 1 := by
          have hp := pp0 k
          unfold sd
          rw [Nat.div_eq_of_lt (by rw [Nat.pow_succ]; omega), Nat.mod_eq_of_lt (by omega), Nat.pow_succ]
          omega
        rw [va_up_self, va_up_up, e] at K
        refine jx (pc' := 94) (L' := [_, _, _, _]) (st' := []) 2 rfl ?_
        try simp (disch := omega) only [kz, kzl0, kzl1, kzb, kzs, zI_add, zI_sub, zI_neg, zI_mul, zL_i, zI_l, zL_add, zL_sub, zL_neg]
        rw [show (k : Int) + 1 = ((k + 1 : Nat) : Int) by omega]
        exact ih (k + 1) (by omega) hb _ K
    cases b
    · skip
      refine jx (pc' := 65) (L' := [_, _, _, _]) (st' := [_, _, _]) 4 rfl ?_
      refine jit (pc' := 72) rfl rfl rfl (by rfl) ?_
      refine jx (pc' := 74) (L' := [_, _, _, _]) (st' := [_, .int (zI 0), _, _]) 2 rfl ?_
      refine jgf (pc' := 77) K.ob rfl rfl rfl rfl rfl ?_
      refine jx (pc' := 78) (L' := [_, _, _, _]) (st' := [_, _, .int (zI 0), _, _]) 1 rfl ?_
      refine jit (pc' := 85) rfl rfl rfl (by rfl) ?_
      refine jx (pc' := 86) (L' := [_, _, _, _]) (st' := [_, _, .int (zI 0), _, _]) 1 rfl ?_
      refine jcs (pc' := 89) 209 [_] [_, .int (zI 0), _, _] rfl rfl rfl rfl rfl rfl rfl rfl ?_
      refine m_greatestPower hf0 hf (jk ?_)
      refine jcv (pc' := 92) 202 [_, .int (zI 0), _, _] [] K.ob rfl rfl rfl rfl rfl rfl rfl rfl ?_
      refine m_become (s := 0) (b := ng) K hf0 rfl hf (by decide) ⟨by omega, by omega⟩ fun h K => jk ?_
      refine jx (pc' := 94) (L' := [_, _, _, _]) (st' := []) 2 rfl ?_
      try simp (disch := omega) only [kz, kzl0, kzl1, kzb, kzs, zI_add, zI_sub, zI_neg, zI_mul, zL_i, zI_l, zL_add, zL_sub, zL_neg]
      exact loop (fD f) 0 (by omega) rfl h K
    · skip
      refine jx (pc' := 65) (L' := [_, _, _, _]) (st' := [_, _, _]) 4 rfl ?_
      refine jin (pc' := 68) 72 rfl rfl rfl rfl (by rfl) ?_
      refine jx (pc' := 74) (L' := [_, _, _, _]) (st' := [_, .int (zI 1), _, _]) 3 rfl ?_
      refine jgf (pc' := 77) K.ob rfl rfl rfl rfl rfl ?_
      refine jx (pc' := 78) (L' := [_, _, _, _]) (st' := [_, _, .int (zI 1), _, _]) 1 rfl ?_
      refine jin (pc' := 81) 85 rfl rfl rfl rfl (by rfl) ?_
      refine jx (pc' := 89) (L' := [_, _, _, _]) (st' := [.int (zI 0), _, .int (zI 1), _, _]) 2 rfl ?_
      refine jcv (pc' := 92) 202 [_, .int (zI 1), _, .int (zI 0)] [] K.ob rfl rfl rfl rfl rfl rfl rfl rfl ?_
      refine m_become (s := 1) (b := ng) K hf0 rfl hf (by decide) ⟨by decide, by decide⟩ fun h K => jk ?_
      refine jx (pc' := 96) (L' := [_, _, _, _]) (st' := [_, _]) 4 rfl ?_
      try simp (disch := omega) only [kz, kzl0, kzl1, kzb, kzs, zI_add, zI_sub, zI_neg, zI_mul, zL_i, zI_l, zL_add, zL_sub, zL_neg]
      refine jcs (pc' := 99) 176 [_] [_] rfl rfl rfl rfl rfl rfl rfl rfl ?_
      refine m_digitsOf hf0 hf (jk ?_)
      refine jcn (pc' := 102) 124 rfl rfl rfl rfl (by rw [zc_ge ⟨by omega, by omega⟩ ⟨by omega, by omega⟩]; exact decide_eq_false (by omega)) ?_
      refine jx (pc' := 103) (L' := [_, _, _, _]) (st' := [_]) 1 rfl ?_
      refine jit (pc' := 124) rfl rfl rfl (by rfl) ?_
      refine ix_qr _ rfl rfl rfl ?_
      exact q _ K
  refine jx (pc' := 2) (L' := [_, _, _, _]) (st' := [_, _]) 2 rfl ?_
  refine jgf (pc' := 5) K.ob rfl rfl rfl rfl rfl ?_
  refine jx (pc' := 8) (L' := [_, _, _, _]) (st' := [_, _]) 2 rfl ?_
  try simp (disch := omega) only [kz, kzl0, kzl1, kzb, kzs, zI_add, zI_sub, zI_neg, zI_mul, zL_i, zI_l, zL_add, zL_sub, zL_neg]
  refine jp_si (pc' := 11) ((si ||| 20)) K (zor si 20) rfl rfl rfl rfl fun h K => ?_
  refine jx (pc' := 12) (L' := [_, _, _, _]) (st' := [_]) 1 rfl ?_
  refine jgf (pc' := 15) K.ob rfl rfl rfl rfl rfl ?_
  by_cases d0 : dr = 0
  · skip
    refine jit (pc' := 56) rfl rfl rfl (by rw [zz_eq ⟨by omega, by omega⟩]; exact decide_eq_true (by omega)) ?_
    refine jx (pc' := 61) (L' := [_, _, _, _]) (st' := [.int (zI 1)]) 2 rfl ?_
    exact t61 _ true (by simp [d0]) K
  · skip
    refine jin (pc' := 18) 56 rfl rfl rfl rfl (by rw [zz_eq ⟨by omega, by omega⟩]; exact decide_eq_false (by omega)) ?_
    refine jx (pc' := 19) (L' := [_, _, _, _]) (st' := [_]) 1 rfl ?_
    refine jgf (pc' := 22) K.ob rfl rfl rfl rfl rfl ?_
    refine jx (pc' := 23) (L' := [_, _, _, _]) (st' := [.int (zI 4), _]) 1 rfl ?_
    by_cases d4 : dr = 4
    · skip
      refine jct (pc' := 56) rfl rfl rfl (by rw [zc_eq ⟨by omega, by omega⟩ ⟨by omega, by omega⟩]; exact decide_eq_true (by omega)) ?_
      refine jx (pc' := 61) (L' := [_, _, _, _]) (st' := [.int (zI 1)]) 2 rfl ?_
      exact t61 _ true (by simp [d4]) K
    · skip
      refine jcn (pc' := 26) 56 rfl rfl rfl rfl (by rw [zc_eq ⟨by omega, by omega⟩ ⟨by omega, by omega⟩]; exact decide_eq_false (by omega)) ?_
      refine jx (pc' := 27) (L' := [_, _, _, _]) (st' := [_]) 1 rfl ?_
      refine jgf (pc' := 30) K.ob rfl rfl rfl rfl rfl ?_
      refine jx (pc' := 31) (L' := [_, _, _, _]) (st' := [.int (zI 2), _]) 1 rfl ?_
      by_cases d2 : dr = 2
      · skip
        refine jcn (pc' := 34) 41 rfl rfl rfl rfl (by rw [zc_ne ⟨by omega, by omega⟩ ⟨by omega, by omega⟩]; exact decide_eq_false (by omega)) ?_
        refine jx (pc' := 35) (L' := [_, _, _, _]) (st' := [_]) 1 rfl ?_
        refine jgf (pc' := 38) K.ob rfl rfl rfl rfl rfl ?_
        cases ng
        · skip
          refine jit (pc' := 56) rfl rfl rfl (by rfl) ?_
          refine jx (pc' := 61) (L' := [_, _, _, _]) (st' := [.int (zI 1)]) 2 rfl ?_
          exact t61 _ true (by simp [d2]) K
        · skip
          refine jin (pc' := 41) 56 rfl rfl rfl rfl (by rfl) ?_
          refine jx (pc' := 42) (L' := [_, _, _, _]) (st' := [_]) 1 rfl ?_
          refine jgf (pc' := 45) K.ob rfl rfl rfl rfl rfl ?_
          refine jx (pc' := 46) (L' := [_, _, _, _]) (st' := [.int (zI 3), _]) 1 rfl ?_
          refine jct (pc' := 60) rfl rfl rfl (by rw [zc_ne ⟨by omega, by omega⟩ ⟨by omega, by omega⟩]; exact decide_eq_true (by omega)) ?_
          refine jx (pc' := 61) (L' := [_, _, _, _]) (st' := [.int (zI 0)]) 1 rfl ?_
          exact t61 _ false (by simp [d2]) K
      · skip
        refine jct (pc' := 41) rfl rfl rfl (by rw [zc_ne ⟨by omega, by omega⟩ ⟨by omega, by omega⟩]; exact decide_eq_true (by omega)) ?_
        refine jx (pc' := 42) (L' := [_, _, _, _]) (st' := [_]) 1 rfl ?_
        refine jgf (pc' := 45) K.ob rfl rfl rfl rfl rfl ?_
        refine jx (pc' := 46) (L' := [_, _, _, _]) (st' := [.int (zI 3), _]) 1 rfl ?_
        by_cases d3 : dr = 3
        · skip
          refine jcn (pc' := 49) 60 rfl rfl rfl rfl (by rw [zc_ne ⟨by omega, by omega⟩ ⟨by omega, by omega⟩]; exact decide_eq_false (by omega)) ?_
          refine jx (pc' := 50) (L' := [_, _, _, _]) (st' := [_]) 1 rfl ?_
          refine jgf (pc' := 53) K.ob rfl rfl rfl rfl rfl ?_
          cases ng
          · skip
            refine jit (pc' := 60) rfl rfl rfl (by rfl) ?_
            refine jx (pc' := 61) (L' := [_, _, _, _]) (st' := [.int (zI 0)]) 1 rfl ?_
            exact t61 _ false (by simp [d3]) K
          · skip
            refine jin (pc' := 56) 60 rfl rfl rfl rfl (by rfl) ?_
            refine jx (pc' := 61) (L' := [_, _, _, _]) (st' := [.int (zI 1)]) 2 rfl ?_
            exact t61 _ true (by simp [d3]) K
        · skip
          refine jct (pc' := 60) rfl rfl rfl (by rw [zc_ne ⟨by omega, by omega⟩ ⟨by omega, by omega⟩]; exact decide_eq_true (by omega)) ?_
          refine jx (pc' := 61) (L' := [_, _, _, _]) (st' := [.int (zI 0)]) 1 rfl ?_
          exact t61 _ false (by cases ng <;> simp [d0, d2, d3, d4]) K
end REF
