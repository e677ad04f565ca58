/-! ===== the reference: toBits, encode, bits ===== -/
/-- one word of ten times a number and a digit -/
theorem tw_s {X d k : Nat} : (10 * X + d) / 2 ^ (32 * k) % 4294967296 = (10 * (X / 2 ^ (32 * k) % 4294967296) + (10 * (X % 2 ^ (32 * k)) + d) / 2 ^ (32 * k)) % 4294967296 ∧ (10 * (X % 2 ^ (32 * (k + 1))) + d) / 2 ^ (32 * (k + 1)) = (10 * (X / 2 ^ (32 * k) % 4294967296) + (10 * (X % 2 ^ (32 * k)) + d) / 2 ^ (32 * k)) / 4294967296 := by
  have hp := two0 (32 * k)
  have e1 : 2 ^ (32 * (k + 1)) = 2 ^ (32 * k) * 4294967296 := by rw [show 32 * (k + 1) = 32 * k + 32 by omega, Nat.pow_add]
  have hx := Nat.div_add_mod X (2 ^ (32 * k))
  generalize 2 ^ (32 * k) = P at *
  constructor
  · have e2 : 10 * X + d = (10 * (X % P) + d) + P * (10 * (X / P)) := by
      have : P * (10 * (X / P)) = 10 * (P * (X / P)) := Nat.mul_left_comm _ _ _
      rw [this]
      generalize P * (X / P) = y at *
      omega
    rw [e2, Nat.add_mul_div_left _ _ hp]
    generalize (10 * (X % P) + d) / P = u
    generalize X / P = v
    omega
  · have e3 : X % (P * 4294967296) = X % P + P * (X / P % 4294967296) := Nat.mod_mul
    rw [e1, e3, ← Nat.div_div_eq_div_mul]
    have e4 : 10 * (X % P + P * (X / P % 4294967296)) + d = (10 * (X % P) + d) + P * (10 * (X / P % 4294967296)) := by
      have : P * (10 * (X / P % 4294967296)) = 10 * (P * (X / P % 4294967296)) := Nat.mul_left_comm _ _ _
      rw [this]
      generalize P * (X / P % 4294967296) = y at *
      omega
    rw [e4, Nat.add_mul_div_left _ _ hp, Nat.add_comm]
section REF
variable {h : ix_H} {Q : ix_O → ix_H → Prop} {S0 : Nat → AC} {R F : Nat → Dm} {V cd dr ra si tr : Nat} {mo ng : Bool} {sp sz wr : Nat} {il : Bool} {rs pt rl wo tx ou : Nat → Nat} {j x y z w a0 b0 k0 c0 : Int} {r f s m a c k n X : Nat} {b t : Bool}
theorem m_toBits {r0 : Int} (K : (RI S0 h R V cd dr ra si tr mo ng sp sz wr il rs pt rl wo tx ou)) (hr0 : r0 = (r : Int)) (hr : r < 12) (hc : (R r).2.2.2.2 < 2 ^ 128) (q : ∀ h' wo', Wn 4 wo' (R r).2.2.2.2 → (RI S0 h' R V cd dr ra si tr mo ng sp sz wr il rs pt rl (wo') tx ou) → Q (.inl none) h') : ix_M 183 [.ref 98, .int (zI r0)] h Q := by
  subst hr0
  have hc40 := (K.rv hr).2.2.2.2
  generalize hC : (R r).2.2.2.2 = C at *
  have outer : ∀ t : Nat, t ≤ 40 → ∀ (h1 : ix_H) (wo' : Nat → Nat) (l3 l5 l6 : Option Value), Wn 4 wo' (C / 10 ^ t) → (RI S0 h1 R V cd dr ra si tr mo ng sp sz wr il rs pt rl (wo') tx ou) → ix_E 183 23 [some (.ref 98), some (.int (zI (r : Int))), some (.int (zI ((t : Int) - 1))), l3, none, l5, l6, none] [] h1 Q := by
    intro t
    induction t with
    | zero =>
      intro _ h wo' l3 l5 l6 W K
      rw [Nat.pow_zero, Nat.div_one] at W
      refine jx (pc' := 24) (L' := [_, _, _, _, _, _, _, _]) (st' := [_]) 1 rfl ?_
      refine jit (pc' := 95) rfl rfl rfl (by rw [zz_lt ⟨by omega, by omega⟩]; exact decide_eq_true (by omega)) ?_
      refine ix_qr _ rfl rfl rfl ?_
      exact q _ _ W K
    | succ t ih =>
      intro ht h wo' l3 l5 l6 W K
      have hdg := dg_b C t
      have hds := div_s C t
      have hlt : C / 10 ^ t < 2 ^ 128 := Nat.lt_of_le_of_lt (Nat.div_le_self _ _) hc
      rw [hds] at hlt
      have ih := fun a b c d e f g => ih a b c d e f g
      rw [hds] at ih
      generalize hX : C / 10 ^ (t + 1) = X at *
      generalize hd : C / 10 ^ t % 10 = d at *
      have inner : ∀ m k : Nat, k + m = 4 → ∀ (h1 : ix_H) (wo2 : Nat → Nat) (l6 : Option Value), (∀ j, j < k → wo2 j = (10 * X + d) / 2 ^ (32 * j) % 4294967296) → (∀ j, k ≤ j → wo2 j = wo' j) → (RI S0 h1 R V cd dr ra si tr mo ng sp sz wr il rs pt rl (wo2) tx ou) → ix_E 183 43 [some (.ref 98), some (.int (zI (r : Int))), some (.int (zI (((t + 1 : Nat) : Int) - 1))), some (.long (zL (((10 * (X % 2 ^ (32 * k)) + d) / 2 ^ (32 * k) : Nat) : Int))), none, some (.int (zI (k : Int))), l6, none] [] h1 Q := by
        intro m
        induction m with
        | zero =>
          intro k hk h wo2 l6 h1 h2 K
          obtain rfl : k = 4 := by omega
          refine jx (pc' := 46) (L' := [_, _, _, _, _, _, _, _]) (st' := [.int (zI 4), _]) 2 rfl ?_
          refine jct (pc' := 89) rfl rfl rfl (by rw [zc_ge ⟨by omega, by omega⟩ ⟨by omega, by omega⟩]; exact decide_eq_true (by omega)) ?_
          refine jx (pc' := 23) (L' := [_, _, _, _, _, _, _, _]) (st' := []) 2 rfl ?_
          try simp (disch := omega) only [kz, kzl0, kzl1, kzb, kzs, zI_add, zI_sub, zI_neg, zI_mul, zL_i, zI_l, zL_add, zL_sub, zL_neg]
          rw [show ((t + 1 : Nat) : Int) - 1 + -1 = (t : Int) - 1 by omega]
          exact ih (by omega) h wo2 _ _ _ ⟨h1, hlt⟩ K
        | succ m ih2 =>
          intro k hk h wo2 l6 h1 h2 K
          obtain ⟨s1, s2⟩ := tw_s (X := X) (d := d) (k := k)
          have hwk := W.1 k (by omega)
          have hca : (10 * (X % 2 ^ (32 * k)) + d) / 2 ^ (32 * k) < 20 := by
            refine (Nat.div_lt_iff_lt_mul (two0 _)).mpr ?_
            have := Nat.mod_lt X (two0 (32 * k))
            have := two0 (32 * k)
            omega
          rw [← hwk] at s1 s2
          have hwl : wo' k < 4294967296 := by rw [hwk]; exact Nat.mod_lt _ (by decide)
          generalize hcc : (10 * (X % 2 ^ (32 * k)) + d) / 2 ^ (32 * k) = ca at *
          generalize hv : 10 * wo' k + ca = v at *
          have em : zL ((v : Nat) : Int) &&& lN 4294967295 = zL ((v % 4294967296 : Nat) : Int) := by
            rw [lz, zLn_and]
            congr 2
            exact and_low v 32
          have es : zL ((v : Nat) : Int) >>> (zL 32 &&& 63) = zL ((v / 4294967296 : Nat) : Int) := lsr_n (s := 32) (by omega) (by decide)
          refine jx (pc' := 46) (L' := [_, _, _, _, _, _, _, _]) (st' := [.int (zI 4), _]) 2 rfl ?_
          refine jcn (pc' := 49) 89 rfl rfl rfl rfl (by rw [zc_ge ⟨by omega, by omega⟩ ⟨by omega, by omega⟩]; exact decide_eq_false (by omega)) ?_
          refine jx (pc' := 53) (L' := [_, _, _, _, _, _, _, _]) (st' := [_, _]) 2 rfl ?_
          try simp (disch := omega) only [kM10, kz, kzl0, kzl1, kzb, kzs, zI_add, zI_sub, zI_neg, zI_mul, zL_i, zI_l, zL_add, zL_sub, zL_neg]
          refine jgf (pc' := 56) K.ob rfl rfl rfl rfl rfl ?_
          refine jx (pc' := 58) (L' := [_, _, _, _, _, _, _, _]) (st' := [_, _, _]) 1 rfl ?_
          refine jR_w (pc' := 59) k K rfl rfl (by omega) (by omega)  rfl ?_
          rw [h2 k (Nat.le_refl _)]
          refine jx (pc' := 62) (L' := [_, _, _, _, _, _, _, _]) (st' := [_]) 3 rfl ?_
          try simp (disch := omega) only [kz, kzl0, kzl1, kzb, kzs, zI_add, zI_sub, zI_neg, zI_mul, zL_i, zI_l, zL_add, zL_sub, zL_neg]
          rw [zL_mul, zL_add, show (10 : Int) * ((wo' k : Nat) : Int) + (ca : Int) = ((v : Nat) : Int) by omega]
          refine jx (pc' := 65) (L' := [_, _, _, _, _, _, _, _]) (st' := [_]) 2 rfl ?_
          refine jgf (pc' := 68) K.ob rfl rfl rfl rfl rfl ?_
          refine jx (pc' := 76) (L' := [_, _, _, _, _, _, _, _]) (st' := [_, _, _]) 4 rfl ?_
          try simp (disch := omega) only [kM4294967295, kz, kzl0, kzl1, kzb, kzs, zI_add, zI_sub, zI_neg, zI_mul, zL_i, zI_l, zL_add, zL_sub, zL_neg]
          rw [em]
          refine jW_w (pc' := 77) k (v % 4294967296) K rfl rfl rfl rfl (by omega) rfl fun h K => ?_
          refine jx (pc' := 82) (L' := [_, _, _, _, _, _, _, _]) (st' := [_]) 3 rfl ?_
          try simp (disch := omega) only [kz, kzl0, kzl1, kzb, kzs, zI_add, zI_sub, zI_neg, zI_mul, zL_i, zI_l, zL_add, zL_sub, zL_neg]
          rw [es]
          refine jx (pc' := 43) (L' := [_, _, _, _, _, _, _, _]) (st' := []) 3 rfl ?_
          try simp (disch := omega) only [kz, kzl0, kzl1, kzb, kzs, zI_add, zI_sub, zI_neg, zI_mul, zL_i, zI_l, zL_add, zL_sub, zL_neg]
          rw [show (k : Int) + 1 = ((k + 1 : Nat) : Int) by omega, ← s2]
          refine ih2 (k + 1) (by omega) h _ _ (fun j hj => ?_) (fun j hj => ?_) K
          · by_cases e : j = k
            · rw [e, va_up_self, s1]
            · rw [va_up_ne _ _ e]
              exact h1 j (by omega)
          · rw [va_up_ne _ _ (by omega)]
            exact h2 j (by omega)
      have := inner 4 0 (by omega) h wo' l6 (fun j hj => by omega) (fun _ _ => rfl) K
      rw [Nat.mul_zero, Nat.pow_zero, Nat.mod_one, Nat.mul_zero, Nat.zero_add, Nat.div_one] at this
      refine jx (pc' := 24) (L' := [_, _, _, _, _, _, _, _]) (st' := [_]) 1 rfl ?_
      refine jin (pc' := 27) 95 rfl rfl rfl rfl (by rw [zz_lt ⟨by omega, by omega⟩]; exact decide_eq_false (by omega)) ?_
      refine jx (pc' := 28) (L' := [_, _, _, _, _, _, _, _]) (st' := [_]) 1 rfl ?_
      refine jgf (pc' := 31) K.ob rfl rfl rfl rfl rfl ?_
      refine jx (pc' := 37) (L' := [_, _, _, _, _, _, _, _]) (st' := [_, _]) 5 rfl ?_
      try simp (disch := omega) only [kz, kzl0, kzl1, kzb, kzs, zI_add, zI_sub, zI_neg, zI_mul, zL_i, zI_l, zL_add, zL_sub, zL_neg]
      refine jR_d (pc' := 38) r t K rfl rfl (by omega) (by omega) (by omega)  rfl ?_
      rw [hC, hd]
      refine jx (pc' := 43) (L' := [_, _, _, _, _, _, _, _]) (st' := []) 4 rfl ?_
      try simp (disch := omega) only [kz, kzl0, kzl1, kzb, kzs, zI_add, zI_sub, zI_neg, zI_mul, zL_i, zI_l, zL_add, zL_sub, zL_neg]
      exact this
  have zer : ∀ m k : Nat, k + m = 4 → ∀ (h1 : ix_H) (wo' : Nat → Nat), (∀ j, j < k → wo' j = 0) → (RI S0 h1 R V cd dr ra si tr mo ng sp sz wr il rs pt rl (wo') tx ou) → ix_E 183 2 [some (.ref 98), some (.int (zI (r : Int))), some (.int (zI (k : Int))), none, none, none, none, none] [] h1 Q := by
    intro m
    induction m with
    | zero =>
      intro k hk h wo' h1 K
      obtain rfl : k = 4 := by omega
      refine jx (pc' := 4) (L' := [_, _, _, _, _, _, _, _]) (st' := [.int (zI 4), _]) 2 rfl ?_
      refine jct (pc' := 20) rfl rfl rfl (by rw [zc_ge ⟨by omega, by omega⟩ ⟨by omega, by omega⟩]; exact decide_eq_true (by omega)) ?_
      refine jx (pc' := 23) (L' := [_, _, _, _, _, _, _, _]) (st' := []) 2 rfl ?_
      try simp (disch := omega) only [kz, kzl0, kzl1, kzb, kzs, zI_add, zI_sub, zI_neg, zI_mul, zL_i, zI_l, zL_add, zL_sub, zL_neg]
      refine outer 40 (Nat.le_refl _) h wo' _ _ _ ⟨fun j hj => ?_, ?_⟩ K
      · rw [h1 j hj, Nat.div_eq_of_lt hc40, Nat.zero_div]
      · rw [Nat.div_eq_of_lt hc40]
        exact two0 _
    | succ m ih =>
      intro k hk h wo' h1 K
      refine jx (pc' := 4) (L' := [_, _, _, _, _, _, _, _]) (st' := [.int (zI 4), _]) 2 rfl ?_
      refine jcn (pc' := 7) 20 rfl rfl rfl rfl (by rw [zc_ge ⟨by omega, by omega⟩ ⟨by omega, by omega⟩]; exact decide_eq_false (by omega)) ?_
      refine jx (pc' := 8) (L' := [_, _, _, _, _, _, _, _]) (st' := [_]) 1 rfl ?_
      refine jgf (pc' := 11) K.ob rfl rfl rfl rfl rfl ?_
      refine jx (pc' := 13) (L' := [_, _, _, _, _, _, _, _]) (st' := [.long (zL 0), _, _]) 2 rfl ?_
      refine jW_w (pc' := 14) k 0 K rfl rfl rfl rfl (by omega) rfl fun h K => ?_
      refine jx (pc' := 2) (L' := [_, _, _, _, _, _, _, _]) (st' := []) 2 rfl ?_
      try simp (disch := omega) only [kz, kzl0, kzl1, kzb, kzs, zI_add, zI_sub, zI_neg, zI_mul, zL_i, zI_l, zL_add, zL_sub, zL_neg]
      rw [show (k : Int) + 1 = ((k + 1 : Nat) : Int) by omega]
      refine ih (k + 1) (by omega) h _ (fun j hj => ?_) K
      by_cases e : j = k
      · rw [e, va_up_self]
      · rw [va_up_ne _ _ e]
        exact h1 j (by omega)
  refine jx (pc' := 2) (L' := [_, _, _, _, _, _, _, _]) (st' := []) 2 rfl ?_
  try simp (disch := omega) only [kz, kzl0, kzl1, kzb, kzs, zI_add, zI_sub, zI_neg, zI_mul, zL_i, zI_l, zL_add, zL_sub, zL_neg]
  exact zer 4 0 (by omega) h wo (fun j hj => by omega) K
noncomputable def ecX (d : Dm) : Nat :=
  pb (if d.2.1 = 0 then (if d.2.2.2.2 / 2 ^ (fWd d.1 - 1 - fFd d.1) = 0 then pb d.2.2.2.2 (fWd d.1 - 1 - fFd d.1) (fFd d.1) (d.2.2.2.1 + fB d.1).toNat else pb (pb d.2.2.2.2 (fWd d.1 - 3) 2 3) (fWd d.1 - 3 - fFd d.1) (fFd d.1) (d.2.2.2.1 + fB d.1).toNat) else pb (pb (pb d.2.2.2.2 (fWd d.1 - 5) 4 15) (fWd d.1 - 6) 1 (if d.2.1 = 1 then 0 else 1)) (fWd d.1 - 7) 1 (if d.2.1 = 2 then 1 else 0)) (fWd d.1 - 1) 1 (if d.2.2.1 then 1 else 0)
theorem m_encode {r0 : Int} (K : (RI S0 h R V cd dr ra si tr mo ng sp sz wr il rs pt rl wo tx ou)) (hr0 : r0 = (r : Int)) (hr : r < 12) (vA : ValD (R r)) (q : ∀ h' wo', Wn 4 wo' (ecX (R r)) → (RI S0 h' R V cd dr ra si tr mo ng sp sz wr il rs pt rl (wo') tx ou) → Q (.inl none) h') : ix_M 182 [.ref 98, .int (zI r0)] h Q := by
  subst hr0
  have hf := vA.1
  obtain ⟨w1, w2, w3, w4', w5, w6, w7, w8, w9⟩ := f3w hf
  have fb := f3b hf
  have gb := gEb hf
  have bA := Val.b vA
  have be := vA.2.2.1
  have hs4 := swp_b vA.2.1
  have s4 := vA.2.1
  have hc128 : (R r).2.2.2.2 < 2 ^ 128 := Nat.lt_trans (Val.c34 vA) (by decide)
  unfold ecX at q
  -- the sign
  have t154 : ∀ (h1 : ix_H) (wo' : Nat → Nat) (X : Nat) (l5 l6 : Option Value), X = (if (R r).2.1 = 0 then (if (R r).2.2.2.2 / 2 ^ (fWd (R r).1 - 1 - fFd (R r).1) = 0 then pb (R r).2.2.2.2 (fWd (R r).1 - 1 - fFd (R r).1) (fFd (R r).1) ((R r).2.2.2.1 + fB (R r).1).toNat else pb (pb (R r).2.2.2.2 (fWd (R r).1 - 3) 2 3) (fWd (R r).1 - 3 - fFd (R r).1) (fFd (R r).1) ((R r).2.2.2.1 + fB (R r).1).toNat) else pb (pb (pb (R r).2.2.2.2 (fWd (R r).1 - 5) 4 15) (fWd (R r).1 - 6) 1 (if (R r).2.1 = 1 then 0 else 1)) (fWd (R r).1 - 7) 1 (if (R r).2.1 = 2 then 1 else 0)) → Wn 4 wo' X → (RI S0 h1 R V cd dr ra si tr mo ng sp sz wr il rs pt rl (wo') tx ou) → ix_E 182 154 [some (.ref 98), some (.int (zI (r : Int))), some (.int (zI (R r).1)), some (.int (zI (fWd (R r).1))), some (.int (zI (fFd (R r).1))), l5, l6] [] h1 Q := by
    intro h wo' X l5 l6 hX W K
    rw [← hX] at q
    have t173 : ∀ v : Nat, v = (if (R r).2.2.1 then 1 else 0) → ix_E 182 173 [some (.ref 98), some (.int (zI (r : Int))), some (.int (zI (R r).1)), some (.int (zI (fWd (R r).1))), some (.int (zI (fFd (R r).1))), l5, l6] [.int (zI (v : Int)), .int (zI 1), .int (zI ((fWd (R r).1 : Int) - 1)), .ref 98] h Q := by
      intro v hv
      have hv1 : v ≤ 1 := by rw [hv]; split <;> decide
      refine jcv (pc' := 176) 185 [_, _, _] [] K.ob rfl rfl rfl rfl rfl rfl rfl rfl ?_
      refine m_put (lo := fWd (R r).1 - 1) (n := 1) (v := v) K W (by omega) rfl rfl (by decide) (by omega) (by omega) fun h wo2 W2 K => jk ?_
      rw [hv] at W2
      refine ix_qr _ rfl rfl rfl ?_
      exact q _ _ W2 K
    refine jx (pc' := 160) (L' := [_, _, _, _, _, _, _]) (st' := [_, .int (zI 1), _, _]) 6 rfl ?_
    try simp (disch := omega) only [kz, kzl0, kzl1, kzb, kzs, zI_add, zI_sub, zI_neg, zI_mul, zL_i, zI_l, zL_add, zL_sub, zL_neg]
    refine jgf (pc' := 163) K.ob rfl rfl rfl rfl rfl ?_
    refine jx (pc' := 164) (L' := [_, _, _, _, _, _, _]) (st' := [_, _, .int (zI 1), _, _]) 1 rfl ?_
    refine jR_m (pc' := 165) r K rfl rfl (by omega) (by omega)  rfl ?_
    cases hn : (R r).2.2.1
    · rw [hn] at t173
      refine jit (pc' := 172) rfl rfl rfl (by rfl) ?_
      refine jx (pc' := 173) (L' := [_, _, _, _, _, _, _]) (st' := [.int (zI 0), .int (zI 1), _, _]) 1 rfl ?_
      exact t173 0 rfl
    · rw [hn] at t173
      refine jin (pc' := 168) 172 rfl rfl rfl rfl (by rfl) ?_
      refine jx (pc' := 173) (L' := [_, _, _, _, _, _, _]) (st' := [.int (zI 1), .int (zI 1), _, _]) 2 rfl ?_
      exact t173 1 rfl
  refine jx (pc' := 1) (L' := [_, _, _, _, _, _, _]) (st' := [_]) 1 rfl ?_
  refine jgf (pc' := 4) K.ob rfl rfl rfl rfl rfl ?_
  refine jx (pc' := 5) (L' := [_, _, _, _, _, _, _]) (st' := [_, _]) 1 rfl ?_
  refine jR_f (pc' := 6) r K rfl rfl (by omega) (by omega)  rfl ?_
  refine jx (pc' := 8) (L' := [_, _, _, _, _, _, _]) (st' := [_]) 2 rfl ?_
  refine jcs (pc' := 11) 169 [_] [] rfl rfl rfl rfl rfl rfl rfl rfl ?_
  refine m_widthOf rfl hf (jk ?_)
  refine jx (pc' := 13) (L' := [_, _, _, _, _, _, _]) (st' := [_]) 2 rfl ?_
  refine jcs (pc' := 16) 171 [_] [] rfl rfl rfl rfl rfl rfl rfl rfl ?_
  refine m_fieldOf rfl hf (jk ?_)
  refine jx (pc' := 20) (L' := [_, _, _, _, _, _, _]) (st' := [_, _]) 3 rfl ?_
  refine jcv (pc' := 23) 183 [_] [] K.ob rfl rfl rfl rfl rfl rfl rfl rfl ?_
  refine m_toBits (r := r) K rfl hr hc128 fun h wo1 W K => jk ?_
  refine jx (pc' := 24) (L' := [_, _, _, _, _, _, _]) (st' := [_]) 1 rfl ?_
  refine jgf (pc' := 27) K.ob rfl rfl rfl rfl rfl ?_
  refine jx (pc' := 28) (L' := [_, _, _, _, _, _, _]) (st' := [_, _]) 1 rfl ?_
  refine jR_so (pc' := 29) r K rfl rfl (by omega) (by omega)  rfl ?_
  by_cases e0 : (R r).2.1 = 0
  · have e1 := swp_0.mpr e0
    simp only [if_pos e0] at t154
    refine jin (pc' := 32) 96 rfl rfl rfl rfl (by rw [zz_ne ⟨by omega, by omega⟩]; exact decide_eq_false (by omega)) ?_
    refine jx (pc' := 43) (L' := [_, _, _, _, _, _, _]) (st' := [_, _]) 8 rfl ?_
    try simp (disch := omega) only [kz, kzl0, kzl1, kzb, kzs, zI_add, zI_sub, zI_neg, zI_mul, zL_i, zI_l, zL_add, zL_sub, zL_neg]
    refine jcv (pc' := 46) 184 [_] [] K.ob rfl rfl rfl rfl rfl rfl rfl rfl ?_
    refine m_isLong (lo := fWd (R r).1 - 1 - fFd (R r).1) K W (by omega) (by omega) (jk ?_)
    refine jx (pc' := 50) (L' := [_, _, _, _, _, _, _]) (st' := [_]) 2 rfl ?_
    obtain ⟨E, hE⟩ : ∃ E : Nat, (E : Int) = (R r).2.2.2.1 + fB (R r).1 := ⟨((R r).2.2.2.1 + fB (R r).1).toNat, by omega⟩
    rw [show ((R r).2.2.2.1 + fB (R r).1).toNat = E by omega] at t154
    have hEb : E < 1000000 := by omega
    by_cases hl : (R r).2.2.2.2 / 2 ^ (fWd (R r).1 - 1 - fFd (R r).1) = 0
    · rw [if_pos hl] at t154
      rw [decide_eq_false (fun z => z hl)]
      refine jit (pc' := 62) rfl rfl rfl (by rfl) ?_
      refine jx (pc' := 65) (L' := [_, _, _, _, _, _, _]) (st' := [_, _]) 2 rfl ?_
      refine jit (pc' := 75) rfl rfl rfl (by rfl) ?_
      refine jx (pc' := 80) (L' := [_, _, _, _, _, _, _]) (st' := [_, _, _, _]) 3 rfl ?_
      refine jgf (pc' := 83) K.ob rfl rfl rfl rfl rfl ?_
      refine jx (pc' := 84) (L' := [_, _, _, _, _, _, _]) (st' := [_, _, _, _, _]) 1 rfl ?_
      refine jR_p (pc' := 85) r K rfl rfl (by omega) (by omega)  rfl ?_
      refine jx (pc' := 86) (L' := [_, _, _, _, _, _, _]) (st' := [_, _, _, _, _]) 1 rfl ?_
      refine jcs (pc' := 89) 179 [_] [_, _, _, _] rfl rfl rfl rfl rfl rfl rfl rfl ?_
      refine m_biasOf rfl hf (jk ?_)
      refine jx (pc' := 90) (L' := [_, _, _, _, _, _, _]) (st' := [_, _, _, _]) 1 rfl ?_
      try simp (disch := omega) only [kz, kzl0, kzl1, kzb, kzs, zI_add, zI_sub, zI_neg, zI_mul, zL_i, zI_l, zL_add, zL_sub, zL_neg]
      refine jcv (pc' := 93) 185 [_, _, _] [] K.ob rfl rfl rfl rfl rfl rfl rfl rfl ?_
      refine m_put (lo := fWd (R r).1 - 1 - fFd (R r).1) (n := fFd (R r).1) (v := E) K W (by omega) rfl hE.symm (by omega) (by omega) hEb fun h wo2 W2 K => jk ?_
      refine jx (pc' := 154) (L' := [_, _, _, _, _, _, _]) (st' := []) 1 rfl ?_
      exact t154 h wo2 _ _ _ rfl W2 K
    · rw [if_neg hl] at t154
      rw [decide_eq_true hl]
      refine jin (pc' := 53) 62 rfl rfl rfl rfl (by rfl) ?_
      refine jx (pc' := 59) (L' := [_, _, _, _, _, _, _]) (st' := [.int (zI 3), .int (zI 2), _, _]) 6 rfl ?_
      try simp (disch := omega) only [kz, kzl0, kzl1, kzb, kzs, zI_add, zI_sub, zI_neg, zI_mul, zL_i, zI_l, zL_add, zL_sub, zL_neg]
      refine jcv (pc' := 62) 185 [_, .int (zI 2), .int (zI 3)] [] K.ob rfl rfl rfl rfl rfl rfl rfl rfl ?_
      refine m_put (lo := fWd (R r).1 - 3) (n := 2) (v := 3) K W (by omega) rfl rfl (by decide) (by omega) (by decide) fun h wo2 W2 K => jk ?_
      refine jx (pc' := 65) (L' := [_, _, _, _, _, _, _]) (st' := [_, _]) 2 rfl ?_
      refine jin (pc' := 68) 75 rfl rfl rfl rfl (by rfl) ?_
      refine jx (pc' := 80) (L' := [_, _, _, _, _, _, _]) (st' := [_, _, _, _]) 6 rfl ?_
      try simp (disch := omega) only [kz, kzl0, kzl1, kzb, kzs, zI_add, zI_sub, zI_neg, zI_mul, zL_i, zI_l, zL_add, zL_sub, zL_neg]
      refine jgf (pc' := 83) K.ob rfl rfl rfl rfl rfl ?_
      refine jx (pc' := 84) (L' := [_, _, _, _, _, _, _]) (st' := [_, _, _, _, _]) 1 rfl ?_
      refine jR_p (pc' := 85) r K rfl rfl (by omega) (by omega)  rfl ?_
      refine jx (pc' := 86) (L' := [_, _, _, _, _, _, _]) (st' := [_, _, _, _, _]) 1 rfl ?_
      refine jcs (pc' := 89) 179 [_] [_, _, _, _] rfl rfl rfl rfl rfl rfl rfl rfl ?_
      refine m_biasOf rfl hf (jk ?_)
      refine jx (pc' := 90) (L' := [_, _, _, _, _, _, _]) (st' := [_, _, _, _]) 1 rfl ?_
      try simp (disch := omega) only [kz, kzl0, kzl1, kzb, kzs, zI_add, zI_sub, zI_neg, zI_mul, zL_i, zI_l, zL_add, zL_sub, zL_neg]
      refine jcv (pc' := 93) 185 [_, _, _] [] K.ob rfl rfl rfl rfl rfl rfl rfl rfl ?_
      refine m_put (lo := fWd (R r).1 - 3 - fFd (R r).1) (n := fFd (R r).1) (v := E) K W2 (by omega) rfl hE.symm (by omega) (by omega) hEb fun h wo3 W3 K => jk ?_
      refine jx (pc' := 154) (L' := [_, _, _, _, _, _, _]) (st' := []) 1 rfl ?_
      exact t154 h wo3 _ _ _ rfl W3 K
  · have e1 : ¬ swp (R r).2.1 = 0 := fun z => e0 (swp_0.mp z)
    simp only [if_neg e0] at t154
    refine jit (pc' := 96) rfl rfl rfl (by rw [zz_ne ⟨by omega, by omega⟩]; exact decide_eq_true (by omega)) ?_
    refine jx (pc' := 103) (L' := [_, _, _, _, _, _, _]) (st' := [.int (zI 15), .int (zI 4), _, _]) 6 rfl ?_
    try simp (disch := omega) only [kz, kzl0, kzl1, kzb, kzs, zI_add, zI_sub, zI_neg, zI_mul, zL_i, zI_l, zL_add, zL_sub, zL_neg]
    refine jcv (pc' := 106) 185 [_, .int (zI 4), .int (zI 15)] [] K.ob rfl rfl rfl rfl rfl rfl rfl rfl ?_
    refine m_put (lo := fWd (R r).1 - 5) (n := 4) (v := 15) K W (by omega) rfl rfl (by decide) (by omega) (by decide) fun h wo2 W2 K => jk ?_
    refine jx (pc' := 113) (L' := [_, _, _, _, _, _, _]) (st' := [_, .int (zI 1), _, _]) 6 rfl ?_
    try simp (disch := omega) only [kz, kzl0, kzl1, kzb, kzs, zI_add, zI_sub, zI_neg, zI_mul, zL_i, zI_l, zL_add, zL_sub, zL_neg]
    refine jgf (pc' := 116) K.ob rfl rfl rfl rfl rfl ?_
    refine jx (pc' := 117) (L' := [_, _, _, _, _, _, _]) (st' := [_, _, .int (zI 1), _, _]) 1 rfl ?_
    refine jR_so (pc' := 118) r K rfl rfl (by omega) (by omega)  rfl ?_
    refine jx (pc' := 119) (L' := [_, _, _, _, _, _, _]) (st' := [.int (zI 1), _, .int (zI 1), _, _]) 1 rfl ?_
    have t127 : ∀ v : Nat, v = (if (R r).2.1 = 1 then 0 else 1) → ix_E 182 127 [some (.ref 98), some (.int (zI (r : Int))), some (.int (zI (R r).1)), some (.int (zI (fWd (R r).1))), some (.int (zI (fFd (R r).1))), none, none] [.int (zI (v : Int)), .int (zI 1), .int (zI ((fWd (R r).1 : Int) - 6)), .ref 98] h Q := by
      intro v hv
      have hv1 : v ≤ 1 := by rw [hv]; split <;> decide
      refine jcv (pc' := 130) 185 [_, _, _] [] K.ob rfl rfl rfl rfl rfl rfl rfl rfl ?_
      refine m_put (lo := fWd (R r).1 - 6) (n := 1) (v := v) K W2 (by omega) rfl rfl (by decide) (by omega) (by omega) fun h wo3 W3 K => jk ?_
      rw [hv] at W3
      have t151 : ∀ v : Nat, v = (if (R r).2.1 = 2 then 1 else 0) → ix_E 182 151 [some (.ref 98), some (.int (zI (r : Int))), some (.int (zI (R r).1)), some (.int (zI (fWd (R r).1))), some (.int (zI (fFd (R r).1))), none, none] [.int (zI (v : Int)), .int (zI 1), .int (zI ((fWd (R r).1 : Int) - 7)), .ref 98] h Q := by
        intro v hv
        have hv1 : v ≤ 1 := by rw [hv]; split <;> decide
        refine jcv (pc' := 154) 185 [_, _, _] [] K.ob rfl rfl rfl rfl rfl rfl rfl rfl ?_
        refine m_put (lo := fWd (R r).1 - 7) (n := 1) (v := v) K W3 (by omega) rfl rfl (by decide) (by omega) (by omega) fun h wo4 W4 K => jk ?_
        rw [hv] at W4
        exact t154 h wo4 _ _ _ rfl W4 K
      refine jx (pc' := 137) (L' := [_, _, _, _, _, _, _]) (st' := [_, .int (zI 1), _, _]) 6 rfl ?_
      try simp (disch := omega) only [kz, kzl0, kzl1, kzb, kzs, zI_add, zI_sub, zI_neg, zI_mul, zL_i, zI_l, zL_add, zL_sub, zL_neg]
      refine jgf (pc' := 140) K.ob rfl rfl rfl rfl rfl ?_
      refine jx (pc' := 141) (L' := [_, _, _, _, _, _, _]) (st' := [_, _, .int (zI 1), _, _]) 1 rfl ?_
      refine jR_so (pc' := 142) r K rfl rfl (by omega) (by omega)  rfl ?_
      refine jx (pc' := 143) (L' := [_, _, _, _, _, _, _]) (st' := [.int (zI 3), _, .int (zI 1), _, _]) 1 rfl ?_
      by_cases e2 : (R r).2.1 = 2
      · have e3 := swp_3.mpr e2
        rw [if_pos e2] at t151
        refine jcn (pc' := 146) 150 rfl rfl rfl rfl (by rw [zc_ne ⟨by omega, by omega⟩ ⟨by omega, by omega⟩]; exact decide_eq_false (by omega)) ?_
        refine jx (pc' := 151) (L' := [_, _, _, _, _, _, _]) (st' := [.int (zI 1), .int (zI 1), _, _]) 2 rfl ?_
        exact t151 1 rfl
      · have e3 : ¬ swp (R r).2.1 = 3 := fun z => e2 (swp_3.mp z)
        rw [if_neg e2] at t151
        refine jct (pc' := 150) rfl rfl rfl (by rw [zc_ne ⟨by omega, by omega⟩ ⟨by omega, by omega⟩]; exact decide_eq_true (by omega)) ?_
        refine jx (pc' := 151) (L' := [_, _, _, _, _, _, _]) (st' := [.int (zI 0), .int (zI 1), _, _]) 1 rfl ?_
        exact t151 0 rfl
    by_cases e2 : (R r).2.1 = 1
    · have e3 := swp_1.mpr e2
      rw [if_pos e2] at t127
      refine jcn (pc' := 122) 126 rfl rfl rfl rfl (by rw [zc_ne ⟨by omega, by omega⟩ ⟨by omega, by omega⟩]; exact decide_eq_false (by omega)) ?_
      refine jx (pc' := 127) (L' := [_, _, _, _, _, _, _]) (st' := [.int (zI 0), _, _, _]) 2 rfl ?_
      exact t127 0 rfl
    · have e3 : ¬ swp (R r).2.1 = 1 := fun z => e2 (swp_1.mp z)
      rw [if_neg e2] at t127
      refine jct (pc' := 126) rfl rfl rfl (by rw [zc_ne ⟨by omega, by omega⟩ ⟨by omega, by omega⟩]; exact decide_eq_true (by omega)) ?_
      refine jx (pc' := 127) (L' := [_, _, _, _, _, _, _]) (st' := [.int (zI 1), _, _, _]) 1 rfl ?_
      exact t127 1 rfl
end REF
