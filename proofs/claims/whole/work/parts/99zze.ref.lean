/-! ===== the reference: bits of the words, decode, load ===== -/
section REF
variable {h : ix_H} {Q : ix_O → ix_H → Prop} {S0 : Nat → AC} {R F : Nat → Dm} {V cd dr ra si tr : Nat} {mo ng : Bool} {sp sz wr : Nat} {il : Bool} {rs pt rl wo tx ou : Nat → Nat} {j x y z w a0 b0 k0 c0 : Int} {r f s m a c k n X : Nat} {b t : Bool}
theorem m_bit (K : (RI S0 h R V cd dr ra si tr mo ng sp sz wr il rs pt rl wo tx ou)) (W : Wn n wo X) (hn : n ≤ 4) (hk0 : k0 = (k : Int)) (hk : k < 32 * n) (q : Q (.inl (some (.int (bI (decide (X / 2 ^ k % 2 = 1)))))) h) : ix_M 172 [.ref 98, .int (zI k0)] h Q := by
  subst hk0
  have hb := Wn_b W hk
  have hw := W.1 (k / 32) (by omega)
  have hwl : wo (k / 32) < 4294967296 := by rw [hw]; exact Nat.mod_lt _ (by decide)
  have hdv : wo (k / 32) / 2 ^ (k % 32) ≤ wo (k / 32) := Nat.div_le_self _ _
  have e : zL ((wo (k / 32) : Nat) : Int) >>> (zL ((k : Int) % 32) &&& 63) &&& zL 1 = zL ((X / 2 ^ k % 2 : Nat) : Int) := by
    rw [show (k : Int) % 32 = ((k % 32 : Nat) : Int) from rfl, lsr_n (by omega) (by omega)]
    generalize wo (k / 32) / 2 ^ (k % 32) = y at hb hdv ⊢
    rw [msk1 _ (by omega) (by omega), ← hb]
    rfl
  refine jx (pc' := 1) (L' := [_, _]) (st' := [_]) 1 rfl ?_
  refine jgf (pc' := 4) K.ob rfl rfl rfl rfl rfl ?_
  refine jx (pc' := 7) (L' := [_, _]) (st' := [.int (zI 32), _, _]) 2 rfl ?_
  refine jidiv (pc' := 8) rfl rfl (by decide) rfl ?_
  rw [zdiv ⟨by omega, by omega⟩ ⟨by omega, by omega⟩]
  refine jR_w (pc' := 9) ((k/32)) K rfl rfl (by omega) (by omega)  rfl ?_
  refine jx (pc' := 12) (L' := [_, _]) (st' := [.int (zI 32), _, _]) 2 rfl ?_
  refine jirem (pc' := 13) rfl rfl (by decide) rfl ?_
  rw [zrem ⟨by omega, by omega⟩ ⟨by omega, by omega⟩]
  refine jx (pc' := 18) (L' := [_, _]) (st' := [_]) 5 rfl ?_
  try simp (disch := omega) only [kz, kzl0, kzl1, kzb, kzs, zI_add, zI_sub, zI_neg, zI_mul, zL_i, zI_l, zL_add, zL_sub, zL_neg]
  rw [e]
  by_cases h0 : X / 2 ^ k % 2 = 1
  · rw [decide_eq_true h0] at q
    refine jin (pc' := 21) 25 rfl rfl rfl rfl (by rw [zl_ne ⟨by omega, by omega⟩ ⟨by decide, by decide⟩]; exact decide_eq_false (by omega)) ?_
    refine jx (pc' := 26) (L' := [_, _]) (st' := [.int (zI 1)]) 2 rfl ?_
    exact jrb rfl rfl q
  · rw [decide_eq_false h0] at q
    refine jit (pc' := 25) rfl rfl rfl (by rw [zl_ne ⟨by omega, by omega⟩ ⟨by decide, by decide⟩]; exact decide_eq_true (by omega)) ?_
    refine jx (pc' := 26) (L' := [_, _]) (st' := [.int (zI 0)]) 1 rfl ?_
    exact jrb rfl rfl q
theorem m_field {l0 m0 : Int} {lo : Nat} (K : (RI S0 h R V cd dr ra si tr mo ng sp sz wr il rs pt rl wo tx ou)) (W : Wn n wo X) (hn : n ≤ 4) (hl0 : l0 = (lo : Int)) (hm0 : m0 = (m : Int)) (hm : m ≤ 20) (hlo : lo + m ≤ 32 * n) (q : Q (.inl (some (.int (zI ((X / 2 ^ lo % 2 ^ m : Nat) : Int))))) h) : ix_M 173 [.ref 98, .int (zI l0), .int (zI m0)] h Q := by
  subst hl0
  subst hm0
  have loop : ∀ t : Nat, t ≤ m → ix_E 173 7 [some (.ref 98), some (.int (zI (lo : Int))), some (.int (zI (m : Int))), some (.int (zI ((X / 2 ^ (lo + t) % 2 ^ (m - t) : Nat) : Int))), some (.int (zI ((t : Int) - 1)))] [] h Q := by
    intro t
    induction t with
    | zero =>
      intro _
      refine jx (pc' := 9) (L' := [_, _, _, _, _]) (st' := [_]) 1 rfl ?_
      refine jit (pc' := 39) rfl rfl rfl (by rw [zz_lt ⟨by omega, by omega⟩]; exact decide_eq_true (by omega)) ?_
      refine jx (pc' := 40) (L' := [_, _, _, _, _]) (st' := [_]) 1 rfl ?_
      refine jri rfl rfl ?_
      exact q
    | succ t ih =>
      intro ht
      have es := fld_s X (lo + t) (m - (t + 1))
      rw [show m - (t + 1) + 1 = m - t by omega] at es
      have hb1 : X / 2 ^ (lo + t + 1) % 2 ^ (m - (t + 1)) < 1048576 := Nat.lt_of_lt_of_le (Nat.mod_lt _ (two0 _)) (Nat.pow_le_pow_right (by decide) (show m - (t + 1) ≤ 20 by omega))
      rw [show lo + (t + 1) = lo + t + 1 by omega]
      generalize hv : X / 2 ^ (lo + t + 1) % 2 ^ (m - (t + 1)) = v at *
      have ih := ih (by omega)
      rw [es] at ih
      have t31 : ∀ bb : Nat, bb = X / 2 ^ (lo + t) % 2 → ix_E 173 31 [some (.ref 98), some (.int (zI (lo : Int))), some (.int (zI (m : Int))), some (.int (zI (v : Int))), some (.int (zI (((t + 1 : Nat) : Int) - 1)))] [.int (zI (bb : Int)), .int (zI (2 * (v : Int)))] h Q := by
        intro bb hbb
        refine jx (pc' := 7) (L' := [_, _, _, _, _]) (st' := []) 4 rfl ?_
        try simp (disch := omega) only [kz, kzl0, kzl1, kzb, kzs, zI_add, zI_sub, zI_neg, zI_mul, zL_i, zI_l, zL_add, zL_sub, zL_neg]
        rw [show 2 * (v : Int) + (bb : Int) = ((2 * v + X / 2 ^ (lo + t) % 2 : Nat) : Int) by omega, show ((t + 1 : Nat) : Int) - 1 + -1 = (t : Int) - 1 by omega]
        exact ih
      refine jx (pc' := 9) (L' := [_, _, _, _, _]) (st' := [_]) 1 rfl ?_
      refine jin (pc' := 12) 39 rfl rfl rfl rfl (by rw [zz_lt ⟨by omega, by omega⟩]; exact decide_eq_false (by omega)) ?_
      refine jx (pc' := 20) (L' := [_, _, _, _, _]) (st' := [_, _, _]) 7 rfl ?_
      try simp (disch := omega) only [kz, kzl0, kzl1, kzb, kzs, zI_add, zI_sub, zI_neg, zI_mul, zL_i, zI_l, zL_add, zL_sub, zL_neg]
      refine jcv (pc' := 23) 172 [_] [_] K.ob rfl rfl rfl rfl rfl rfl rfl rfl ?_
      refine m_bit (k := lo + t) K W hn (by omega) (by omega) (jk ?_)
      by_cases h0 : X / 2 ^ (lo + t) % 2 = 1
      · rw [decide_eq_true h0]
        refine jin (pc' := 26) 30 rfl rfl rfl rfl (by rfl) ?_
        refine jx (pc' := 31) (L' := [_, _, _, _, _]) (st' := [.int (zI 1), _]) 2 rfl ?_
        exact t31 1 h0.symm
      · rw [decide_eq_false h0]
        refine jit (pc' := 30) rfl rfl rfl (by rfl) ?_
        refine jx (pc' := 31) (L' := [_, _, _, _, _]) (st' := [.int (zI 0), _]) 1 rfl ?_
        exact t31 0 (by omega)
  have := loop m (Nat.le_refl _)
  rw [Nat.sub_self, Nat.pow_zero, Nat.mod_one] at this
  refine jx (pc' := 7) (L' := [_, _, _, _, _]) (st' := []) 6 rfl ?_
  try simp (disch := omega) only [kz, kzl0, kzl1, kzb, kzs, zI_add, zI_sub, zI_neg, zI_mul, zL_i, zI_l, zL_add, zL_sub, zL_neg]
  exact this
/-- doubling -/
theorem dbl_s {c k low d ca bt v : Nat} (hlow : low < 10 ^ k) (e : low + ca * 10 ^ k = 2 * (c % 10 ^ k) + bt) (hd : d = c / 10 ^ k % 10) (hv : v = 2 * d + ca) : sd (c / 10 ^ k * 10 ^ k + low) k (v % 10) = c / 10 ^ (k + 1) * 10 ^ (k + 1) + (low + v % 10 * 10 ^ k) ∧ low + v % 10 * 10 ^ k < 10 ^ (k + 1) ∧ (low + v % 10 * 10 ^ k) + v / 10 * 10 ^ (k + 1) = 2 * (c % 10 ^ (k + 1)) + bt := by
  have hp := pp0 k
  have hy9 : v % 10 * 10 ^ k ≤ 9 * 10 ^ k := Nat.mul_le_mul_right _ (by omega)
  have e10 : (10 : Nat) ^ (k + 1) = 10 * 10 ^ k := by rw [Nat.pow_succ, Nat.mul_comm]
  refine ⟨?_, by omega, ?_⟩
  · unfold sd
    rw [dgh _ hlow (by omega), show k + 1 - k = 1 by omega, Nat.pow_one, Nat.add_comm (c / 10 ^ k * 10 ^ k), Nat.add_mul_mod_self_right, Nat.mod_eq_of_lt hlow, Nat.div_div_eq_div_mul, ← Nat.pow_succ]
    simp only [Nat.succ_eq_add_one]
    omega
  · rw [mod_s, ← hd, Nat.mul_add]
    have h3 : v = 10 * (v / 10) + v % 10 := by omega
    have h4 : (2 * d + ca) * 10 ^ k = 10 * (v / 10) * 10 ^ k + v % 10 * 10 ^ k := by rw [← hv, ← Nat.add_mul, ← h3]
    rw [Nat.add_mul] at h4
    have h5 : v / 10 * 10 ^ (k + 1) = 10 * (v / 10) * 10 ^ k := by rw [e10, ← Nat.mul_assoc, Nat.mul_comm (v / 10) 10]
    have h6 : 2 * (d * 10 ^ k) = 2 * d * 10 ^ k := by rw [Nat.mul_assoc]
    rw [h5, h6]
    omega
theorem m_fromBits {r0 n0 e0 : Int} {m bf : Nat} (K : (RI S0 h R V cd dr ra si tr mo ng sp sz wr il rs pt rl wo tx ou)) (W : Wn n wo X) (hn : n ≤ 4) (hr0 : r0 = (r : Int)) (hr : r < 12) (hn0 : n0 = (m : Int)) (he0 : e0 = (bf : Int)) (hm : m ≤ 32 * n) (hbf : bf < 10) (hB : (bf + 1) * 2 ^ m ≤ 10 ^ 40) (q : ∀ h', (RI S0 h' (va_up R r (sC (R r) (bf * 2 ^ m + X % 2 ^ m))) V cd dr ra si tr mo ng sp sz wr il rs pt rl wo tx ou) → Q (.inl none) h') : ix_M 174 [.ref 98, .int (zI r0), .int (zI n0), .int (zI e0)] h Q := by
  subst hr0
  subst hn0
  subst he0
  have outer : ∀ t : Nat, t ≤ m → ∀ (h1 : ix_H) (l5 l6 l7 : Option Value), (RI S0 h1 (va_up R r (sC (R r) (bf * 2 ^ (m - t) + X / 2 ^ t % 2 ^ (m - t)))) V cd dr ra si tr mo ng sp sz wr il rs pt rl wo tx ou) → ix_E 174 20 [some (.ref 98), some (.int (zI (r : Int))), some (.int (zI (m : Int))), some (.int (zI (bf : Int))), some (.int (zI ((t : Int) - 1))), l5, l6, l7] [] h1 Q := by
    intro t
    induction t with
    | zero =>
      intro _ h l5 l6 l7 K
      rw [Nat.sub_zero, Nat.pow_zero, Nat.div_one] at K
      refine jx (pc' := 22) (L' := [_, _, _, _, _, _, _, _]) (st' := [_]) 1 rfl ?_
      refine jit (pc' := 106) rfl rfl rfl (by rw [zz_lt ⟨by omega, by omega⟩]; exact decide_eq_true (by omega)) ?_
      refine ix_qr _ rfl rfl rfl ?_
      exact q _ K
    | succ t ih =>
      intro ht h l5 l6 l7 K
      have es := fld_s X t (m - (t + 1))
      rw [show m - (t + 1) + 1 = m - t by omega] at es
      have hp2 : 2 ^ (m - t) = 2 * 2 ^ (m - (t + 1)) := by rw [show m - t = m - (t + 1) + 1 by omega, Nat.pow_succ, Nat.mul_comm]
      have ec : bf * 2 ^ (m - t) + X / 2 ^ t % 2 ^ (m - t) = 2 * (bf * 2 ^ (m - (t + 1)) + X / 2 ^ (t + 1) % 2 ^ (m - (t + 1))) + X / 2 ^ t % 2 := by
        rw [es, hp2, Nat.mul_left_comm, Nat.mul_add]
        omega
      have hcb : bf * 2 ^ (m - t) + X / 2 ^ t % 2 ^ (m - t) < 10 ^ 40 := by
        have h1 := Nat.mod_lt (X / 2 ^ t) (two0 (m - t))
        have h2 : (bf + 1) * 2 ^ (m - t) ≤ (bf + 1) * 2 ^ m := Nat.mul_le_mul_left _ (Nat.pow_le_pow_right (by decide) (by omega))
        rw [Nat.add_mul, Nat.one_mul] at h2
        omega
      rw [ec] at ih hcb
      generalize hc : bf * 2 ^ (m - (t + 1)) + X / 2 ^ (t + 1) % 2 ^ (m - (t + 1)) = c at *
      have hbit : X / 2 ^ t % 2 < 2 := Nat.mod_lt _ (by decide)
      have inner : ∀ n2 k : Nat, k + n2 = 40 → ∀ (h1 : ix_H) (low ca : Nat) (l7 : Option Value), ca ≤ 1 → low < 10 ^ k → low + ca * 10 ^ k = 2 * (c % 10 ^ k) + X / 2 ^ t % 2 → (RI S0 h1 (va_up R r (sC (R r) (c / 10 ^ k * 10 ^ k + low))) V cd dr ra si tr mo ng sp sz wr il rs pt rl wo tx ou) → ix_E 174 44 [some (.ref 98), some (.int (zI (r : Int))), some (.int (zI (m : Int))), some (.int (zI (bf : Int))), some (.int (zI (((t + 1 : Nat) : Int) - 1))), some (.int (zI (ca : Int))), some (.int (zI (k : Int))), l7] [] h1 Q := by
        intro n2
        induction n2 with
        | zero =>
          intro k hk h low ca l7 hca hl e K
          obtain rfl : k = 40 := by omega
          have hc40 : c < 10 ^ 40 := by omega
          rw [Nat.mod_eq_of_lt hc40] at e
          have hca0 : ca = 0 := by
            rcases Nat.eq_zero_or_pos ca with z | z
            · exact z
            · have : 1 * 10 ^ 40 ≤ ca * 10 ^ 40 := Nat.mul_le_mul_right _ z
              omega
          rw [hca0, Nat.zero_mul, Nat.add_zero] at e
          rw [Nat.div_eq_of_lt hc40, Nat.zero_mul, Nat.zero_add, e] at K
          refine jx (pc' := 48) (L' := [_, _, _, _, _, _, _, _]) (st' := [.int (zI 40), _]) 2 rfl ?_
          refine jct (pc' := 100) rfl rfl rfl (by rw [zc_ge ⟨by omega, by omega⟩ ⟨by omega, by omega⟩]; exact decide_eq_true (by omega)) ?_
          refine jx (pc' := 20) (L' := [_, _, _, _, _, _, _, _]) (st' := []) 2 rfl ?_
          try simp (disch := omega) only [kz, kzl0, kzl1, kzb, kzs, zI_add, zI_sub, zI_neg, zI_mul, zL_i, zI_l, zL_add, zL_sub, zL_neg]
          rw [show ((t + 1 : Nat) : Int) - 1 + -1 = (t : Int) - 1 by omega]
          exact ih (by omega) h _ _ _ K
        | succ n2 ih2 =>
          intro k hk h low ca l7 hca hl e K
          have hb := dg_b c k
          have ed : (c / 10 ^ k * 10 ^ k + low) / 10 ^ k % 10 = c / 10 ^ k % 10 := by
            rw [dgh _ hl (Nat.le_refl _), Nat.sub_self, Nat.pow_zero, Nat.div_one]
          refine jx (pc' := 48) (L' := [_, _, _, _, _, _, _, _]) (st' := [.int (zI 40), _]) 2 rfl ?_
          refine jcn (pc' := 51) 100 rfl rfl rfl rfl (by rw [zc_ge ⟨by omega, by omega⟩ ⟨by omega, by omega⟩]; exact decide_eq_false (by omega)) ?_
          refine jx (pc' := 53) (L' := [_, _, _, _, _, _, _, _]) (st' := [_, .int (zI 2)]) 2 rfl ?_
          refine jgf (pc' := 56) K.ob rfl rfl rfl rfl rfl ?_
          refine jx (pc' := 63) (L' := [_, _, _, _, _, _, _, _]) (st' := [_, _, .int (zI 2)]) 5 rfl ?_
          try simp (disch := omega) only [kz, kzl0, kzl1, kzb, kzs, zI_add, zI_sub, zI_neg, zI_mul, zL_i, zI_l, zL_add, zL_sub, zL_neg]
          refine jR_d (pc' := 64) r k K rfl rfl (by omega) (by omega) (by omega)  rfl ?_
          simp only [va_up_self]
          rw [ed]
          refine jx (pc' := 68) (L' := [_, _, _, _, _, _, _, _]) (st' := [_]) 3 rfl ?_
          try simp (disch := omega) only [kz, kzl0, kzl1, kzb, kzs, zI_add, zI_sub, zI_neg, zI_mul, zL_i, zI_l, zL_add, zL_sub, zL_neg]
          rw [show (2 : Int) * ((c / 10 ^ k % 10 : Nat) : Int) + (ca : Int) = ((2 * (c / 10 ^ k % 10) + ca : Nat) : Int) by push_cast; rfl]
          obtain ⟨p1, p2, p3⟩ := dbl_s (c := c) (k := k) (low := low) (d := c / 10 ^ k % 10) (ca := ca) (bt := X / 2 ^ t % 2) (v := 2 * (c / 10 ^ k % 10) + ca) hl e rfl rfl
          generalize hv : 2 * (c / 10 ^ k % 10) + ca = v at *
          refine jx (pc' := 71) (L' := [_, _, _, _, _, _, _, _]) (st' := [_]) 2 rfl ?_
          refine jgf (pc' := 74) K.ob rfl rfl rfl rfl rfl ?_
          refine jx (pc' := 85) (L' := [_, _, _, _, _, _, _, _]) (st' := [.int (zI 10), _, _, _]) 7 rfl ?_
          try simp (disch := omega) only [kz, kzl0, kzl1, kzb, kzs, zI_add, zI_sub, zI_neg, zI_mul, zL_i, zI_l, zL_add, zL_sub, zL_neg]
          refine jirem (pc' := 86) rfl rfl (by decide) rfl ?_
          rw [zrem ⟨by omega, by omega⟩ ⟨by omega, by omega⟩]
          refine jW_d (pc' := 87) r k ((v%10)) K (by first | rfl | (congr 1; omega)) rfl rfl (by omega) (by omega) (by omega)  rfl (by omega) fun h K => ?_
          rw [va_up_self, va_up_up, p1] at K
          refine jx (pc' := 91) (L' := [_, _, _, _, _, _, _, _]) (st' := [.int (zI 10), _]) 2 rfl ?_
          refine jidiv (pc' := 92) rfl rfl (by decide) rfl ?_
          rw [zdiv ⟨by omega, by omega⟩ ⟨by omega, by omega⟩]
          refine jx (pc' := 44) (L' := [_, _, _, _, _, _, _, _]) (st' := []) 3 rfl ?_
          try simp (disch := omega) only [kz, kzl0, kzl1, kzb, kzs, zI_add, zI_sub, zI_neg, zI_mul, zL_i, zI_l, zL_add, zL_sub, zL_neg]
          rw [show (k : Int) + 1 = ((k + 1 : Nat) : Int) by omega, show (v : Int) / 10 = ((v / 10 : Nat) : Int) by omega]
          exact ih2 (k + 1) (by omega) h _ (v / 10) _ (by omega) p2 p3 K
      have t39 : ∀ bb : Nat, bb = X / 2 ^ t % 2 → ix_E 174 39 [some (.ref 98), some (.int (zI (r : Int))), some (.int (zI (m : Int))), some (.int (zI (bf : Int))), some (.int (zI (((t + 1 : Nat) : Int) - 1))), l5, l6, l7] [.int (zI (bb : Int))] h Q := by
        intro bb hbb
        refine jx (pc' := 44) (L' := [_, _, _, _, _, _, _, _]) (st' := []) 3 rfl ?_
        try simp (disch := omega) only [kz, kzl0, kzl1, kzb, kzs, zI_add, zI_sub, zI_neg, zI_mul, zL_i, zI_l, zL_add, zL_sub, zL_neg]
        refine inner 40 0 (by omega) h 0 bb _ (by omega) (by decide) ?_ ?_
        · rw [Nat.pow_zero, Nat.mod_one, Nat.mul_one, hbb]
        · rw [Nat.pow_zero, Nat.div_one, Nat.mul_one, Nat.add_zero]
          exact K
      refine jx (pc' := 22) (L' := [_, _, _, _, _, _, _, _]) (st' := [_]) 1 rfl ?_
      refine jin (pc' := 25) 106 rfl rfl rfl rfl (by rw [zz_lt ⟨by omega, by omega⟩]; exact decide_eq_false (by omega)) ?_
      refine jx (pc' := 28) (L' := [_, _, _, _, _, _, _, _]) (st' := [_, _]) 2 rfl ?_
      refine jcv (pc' := 31) 172 [_] [] K.ob rfl rfl rfl rfl rfl rfl rfl rfl ?_
      refine m_bit (k := t) K W hn (by omega) (by omega) (jk ?_)
      by_cases h0 : X / 2 ^ t % 2 = 1
      · rw [decide_eq_true h0]
        refine jin (pc' := 34) 38 rfl rfl rfl rfl (by rfl) ?_
        refine jx (pc' := 39) (L' := [_, _, _, _, _, _, _, _]) (st' := [.int (zI 1)]) 2 rfl ?_
        exact t39 1 h0.symm
      · rw [decide_eq_false h0]
        refine jit (pc' := 38) rfl rfl rfl (by rfl) ?_
        refine jx (pc' := 39) (L' := [_, _, _, _, _, _, _, _]) (st' := [.int (zI 0)]) 1 rfl ?_
        exact t39 0 (by omega)
  have e0 : sd 0 0 bf = bf := by
    unfold sd
    rw [Nat.zero_div, Nat.zero_mod, Nat.zero_mul, Nat.zero_add, Nat.pow_zero, Nat.mul_one, Nat.add_zero]
  refine jx (pc' := 2) (L' := [_, _, _, _, _, _, _, _]) (st' := [_, _]) 2 rfl ?_
  refine jcv (pc' := 5) 175 [_] [] K.ob rfl rfl rfl rfl rfl rfl rfl rfl ?_
  refine m_clear (r := r) K rfl hr fun h K => jk ?_
  refine jx (pc' := 6) (L' := [_, _, _, _, _, _, _, _]) (st' := [_]) 1 rfl ?_
  refine jgf (pc' := 9) K.ob rfl rfl rfl rfl rfl ?_
  refine jx (pc' := 14) (L' := [_, _, _, _, _, _, _, _]) (st' := [_, _, _]) 4 rfl ?_
  try simp (disch := omega) only [kz, kzl0, kzl1, kzb, kzs, zI_add, zI_sub, zI_neg, zI_mul, zL_i, zI_l, zL_add, zL_sub, zL_neg]
  refine jW_d (pc' := 15) r 0 bf K (by first | rfl | (congr 1; omega)) rfl rfl (by omega) (by omega) (by omega)  rfl (by omega) fun h K => ?_
  rw [va_up_self, va_up_up, e0] at K
  refine jx (pc' := 20) (L' := [_, _, _, _, _, _, _, _]) (st' := []) 4 rfl ?_
  try simp (disch := omega) only [kz, kzl0, kzl1, kzb, kzs, zI_add, zI_sub, zI_neg, zI_mul, zL_i, zI_l, zL_add, zL_sub, zL_neg]
  refine outer m (Nat.le_refl _) h _ _ _ ?_
  rw [Nat.sub_self, Nat.pow_zero, Nat.mul_one, Nat.mod_one, Nat.add_zero]
  exact K
end REF
