/-! ===== the reference: layProduct ===== -/
section REF
variable {h : ix_H} {Q : ix_O → ix_H → Prop} {S0 : Nat → AC} {R : Nat → Dm} {V cd dr ra si tr : Nat} {mo ng : Bool} {sp sz wr : Nat} {il : Bool} {rs pt rl wo tx ou : Nat → Nat} {j x : Int} {r f s m a : Nat} {b : Bool}
theorem m_layProduct {a0 b0 : Int} {c : Nat} (K : (RI S0 h R V cd dr ra si tr mo ng sp sz wr il rs pt rl wo tx ou)) (ha0 : a0 = (a : Int)) (hb0 : b0 = (c : Int)) (ha : a < 12) (hc : c < 12) (u : Nat) (hu : (u : Int) = 12500 + (R a).2.2.2.1 + (R c).2.2.2.1) (hu2 : u + 90 ≤ 25400) (q : ∀ h', (RI S0 h' R ((R a).2.2.2.2 * (R c).2.2.2.2 * 10 ^ u) cd dr ra si tr (false) ng sp sz wr il rs pt rl wo tx ou) → Q (.inl none) h') : ix_M 220 [.ref 98, .int (zI a0), .int (zI b0)] h Q := by
  subst ha0
  subst hb0
  have hva := K.rv ha
  have hvc := K.rv hc
  have h40a := hva.2.2.2.2
  have h40c := hvc.2.2.2.2
  have ea1 := hva.2.2.1
  have ea2 := hva.2.2.2.1
  have ec1 := hvc.2.2.1
  have ec2 := hvc.2.2.2.1
  generalize hA : (R a).2.2.2.2 = A at *
  generalize hC : (R c).2.2.2.2 = C at *
  have outer : ∀ n i : Nat, i + n = 40 → ∀ (h1 : ix_H) (l5 l6 l7 : Option Value), (RI S0 h1 R (A % 10 ^ i * C * 10 ^ u) cd dr ra si tr (false) ng sp sz wr il rs pt rl wo tx ou) → ix_E 220 25 [some (.ref 98), some (.int (zI (a : Int))), some (.int (zI (c : Int))), some (.int (zI (u : Int))), some (.int (zI (i : Int))), l5, l6, l7] [] h1 Q := by
    intro n
    induction n with
    | zero =>
      intro i hi h l5 l6 l7 K
      refine jx (pc' := 29) (L' := [_, _, _, _, _, _, _, _]) (st' := [.int (zI 40), _]) 2 rfl ?_
      refine jct (pc' := 124) rfl rfl rfl (by rw [zc_ge ⟨by omega, by omega⟩ ⟨by omega, by omega⟩]; exact decide_eq_true (by omega)) ?_
      refine ix_qr _ rfl rfl rfl ?_
      obtain rfl : i = 40 := by omega
      rw [Nat.mod_eq_of_lt h40a] at K
      exact q _ K
    | succ n ih =>
      intro i hi h l5 l6 l7 K
      have hat : atD A (i : Int) = A / 10 ^ i % 10 := by unfold atD; rw [if_neg (by omega)]; rfl
      have hbd := dg_b A i
      have estep : A % 10 ^ (i + 1) * C * 10 ^ u = A % 10 ^ i * C * 10 ^ u + A / 10 ^ i % 10 * (C * 10 ^ (u + i)) := by
        rw [mod_s, Nat.add_mul, Nat.add_mul, Nat.add_comm, Nat.add_comm u i, Nat.pow_add]
        congr 1
        ac_rfl
      have hVi : A % 10 ^ i * C * 10 ^ u < 10 ^ (u + i + 40) := by
        have hm := Nat.mod_lt A (pp0 i)
        have h1 : A % 10 ^ i * C < 10 ^ i * 10 ^ 40 := Nat.mul_lt_mul_of_le_of_lt (Nat.le_of_lt hm) h40c (pp0 i)
        have h2 := Nat.mul_lt_mul_of_pos_right h1 (pp0 u)
        rw [← Nat.pow_add, ← Nat.pow_add] at h2
        rw [show u + i + 40 = i + 40 + u by omega]
        exact h2
      generalize hW : A % 10 ^ i * C * 10 ^ u = W at *
      have inner : ∀ n2 k : Nat, k + n2 = 41 → ¬ A / 10 ^ i % 10 = 0 → ∀ (h1 : ix_H) (low ca : Nat) (l7 : Option Value), ca < 10 → low < 10 ^ (u + i + k) → (low : Int) + ca * (10 ^ (u + i + k) : Nat) = (W % 10 ^ (u + i + k) : Nat) + ((A / 10 ^ i % 10 : Nat) : Int) * (C % 10 ^ k * 10 ^ (u + i) : Nat) → (RI S0 h1 R (W / 10 ^ (u + i + k) * 10 ^ (u + i + k) + low) cd dr ra si tr (false) ng sp sz wr il rs pt rl wo tx ou) → ix_E 220 38 [some (.ref 98), some (.int (zI (a : Int))), some (.int (zI (c : Int))), some (.int (zI (u : Int))), some (.int (zI (i : Int))), some (.int (zI (ca : Int))), some (.int (zI (k : Int))), l7] [] h1 Q := by
        intro n2
        induction n2 with
        | zero =>
          intro k hk hd0 h low ca l7 hca hl e K
          obtain rfl : k = 41 := by omega
          refine jx (pc' := 42) (L' := [_, _, _, _, _, _, _, _]) (st' := [.int (zI 41), _]) 2 rfl ?_
          refine jct (pc' := 118) rfl rfl rfl (by rw [zc_ge ⟨by omega, by omega⟩ ⟨by omega, by omega⟩]; exact decide_eq_true (by omega)) ?_
          refine jx (pc' := 25) (L' := [_, _, _, _, _, _, _, _]) (st' := []) 2 rfl ?_
          try simp (disch := omega) only [kz, kzl0, kzl1, kzb, kzs, zI_add, zI_sub, zI_neg, zI_mul, zL_i, zI_l, zL_add, zL_sub, zL_neg]
          rw [show (i : Int) + 1 = ((i + 1 : Nat) : Int) by omega]
          refine ih (i + 1) (by omega) _ _ _ _ ?_
          have hW2 : W < 10 ^ (u + i + 41) := Nat.lt_of_lt_of_le hVi (pl (by omega))
          rw [Nat.mod_eq_of_lt hW2, Nat.mod_eq_of_lt (Nat.lt_of_lt_of_le h40c (pl (by omega)))] at e
          rw [Nat.div_eq_of_lt hW2, Nat.zero_mul, Nat.zero_add] at K
          have hdC : A / 10 ^ i % 10 * (C * 10 ^ (u + i)) ≤ 9 * (10 ^ (u + i + 40)) := by
            refine Nat.mul_le_mul (by omega) ?_
            rw [show u + i + 40 = 40 + (u + i) by omega, Nat.pow_add 10 40 (u + i)]
            exact Nat.mul_le_mul_right _ (Nat.le_of_lt h40c)
          have e41 : 10 ^ (u + i + 41) = 10 * 10 ^ (u + i + 40) := by rw [show u + i + 41 = u + i + 40 + 1 by omega, Nat.pow_succ, Nat.mul_comm]
          have e' : low + ca * 10 ^ (u + i + 41) = W + A / 10 ^ i % 10 * (C * 10 ^ (u + i)) := by
            refine Int.ofNat_inj.mp ?_
            rw [Int.natCast_add, Int.natCast_mul, Int.natCast_add, Int.natCast_mul]
            exact e
          have hca0 : ca = 0 := by
            rcases Nat.eq_zero_or_pos ca with z | z
            · exact z
            · have : 1 * 10 ^ (u + i + 41) ≤ ca * 10 ^ (u + i + 41) := Nat.mul_le_mul_right _ z
              omega
          rw [hca0, Nat.zero_mul, Nat.add_zero] at e'
          rw [estep, ← e']
          exact K
        | succ n2 ih2 =>
          intro k hk hd0 h low ca l7 hca hl e K
          have hatk : atD C (k : Int) = C / 10 ^ k % 10 := by unfold atD; rw [if_neg (by omega)]; rfl
          have hbc := dg_b C k
          have hbw := dg_b W (u + i + k)
          have ed : (W / 10 ^ (u + i + k) * 10 ^ (u + i + k) + low) / 10 ^ (u + i + k) % 10 = W / 10 ^ (u + i + k) % 10 := by
            rw [dgh _ hl (Nat.le_refl _), Nat.sub_self, Nat.pow_zero, Nat.div_one]
          refine jx (pc' := 42) (L' := [_, _, _, _, _, _, _, _]) (st' := [.int (zI 41), _]) 2 rfl ?_
          refine jcn (pc' := 45) 118 rfl rfl rfl rfl (by rw [zc_ge ⟨by omega, by omega⟩ ⟨by omega, by omega⟩]; exact decide_eq_false (by omega)) ?_
          refine jx (pc' := 49) (L' := [_, _, _, _, _, _, _, _]) (st' := [_, _, _]) 3 rfl ?_
          refine jcv (pc' := 52) 198 [_, _] [] K.ob rfl rfl rfl rfl rfl rfl rfl rfl ?_
          refine m_at K rfl ha ⟨by omega, by omega⟩ (jk ?_)
          rw [hA, hat]
          refine jin (pc' := 55) 118 rfl rfl rfl rfl (by rw [zz_eq ⟨by omega, by omega⟩]; exact decide_eq_false (by omega)) ?_
          refine jx (pc' := 56) (L' := [_, _, _, _, _, _, _, _]) (st' := [_]) 1 rfl ?_
          refine jgf (pc' := 59) K.ob rfl rfl rfl rfl rfl ?_
          refine jx (pc' := 66) (L' := [_, _, _, _, _, _, _, _]) (st' := [_, _]) 5 rfl ?_
          try simp (disch := omega) only [kz, kzl0, kzl1, kzb, kzs, zI_add, zI_sub, zI_neg, zI_mul, zL_i, zI_l, zL_add, zL_sub, zL_neg]
          refine jR_r (pc' := 67) ((u+i+k)) K rfl rfl (by omega) (by omega)  rfl ?_
          rw [ed]
          refine jx (pc' := 71) (L' := [_, _, _, _, _, _, _, _]) (st' := [_, _, _, _]) 3 rfl ?_
          refine jcv (pc' := 74) 198 [_, _] [_] K.ob rfl rfl rfl rfl rfl rfl rfl rfl ?_
          refine m_at K rfl ha ⟨by omega, by omega⟩ (jk ?_)
          rw [hA, hat]
          refine jx (pc' := 78) (L' := [_, _, _, _, _, _, _, _]) (st' := [_, _, _, _, _]) 3 rfl ?_
          refine jcv (pc' := 81) 198 [_, _] [_, _] K.ob rfl rfl rfl rfl rfl rfl rfl rfl ?_
          refine m_at K rfl hc ⟨by omega, by omega⟩ (jk ?_)
          rw [hC, hatk]
          generalize hx : A / 10 ^ i % 10 = x at *
          generalize hy : C / 10 ^ k % 10 = y at *
          generalize hz : W / 10 ^ (u + i + k) % 10 = z at *
          have hxy : x * y ≤ 81 := Nat.mul_le_mul (show x ≤ 9 by omega) (show y ≤ 9 by omega)
          refine jx (pc' := 86) (L' := [_, _, _, _, _, _, _, _]) (st' := [_]) 4 rfl ?_
          try simp (disch := omega) only [kz, kzl0, kzl1, kzb, kzs, zI_add, zI_sub, zI_neg, zI_mul, zL_i, zI_l, zL_add, zL_sub, zL_neg]
          rw [show (z : Int) + (x : Int) * (y : Int) + (ca : Int) = ((z + x * y + ca : Nat) : Int) by push_cast; rfl]
          generalize hv : z + x * y + ca = v at *
          refine jx (pc' := 89) (L' := [_, _, _, _, _, _, _, _]) (st' := [_]) 2 rfl ?_
          refine jgf (pc' := 92) K.ob rfl rfl rfl rfl rfl ?_
          refine jx (pc' := 103) (L' := [_, _, _, _, _, _, _, _]) (st' := [.int (zI 10), _, _, _]) 7 rfl ?_
          try simp (disch := omega) only [kz, kzl0, kzl1, kzb, kzs, zI_add, zI_sub, zI_neg, zI_mul, zL_i, zI_l, zL_add, zL_sub, zL_neg]
          refine jirem (pc' := 104) rfl rfl (by decide) rfl ?_
          rw [zrem ⟨by omega, by omega⟩ ⟨by omega, by omega⟩]
          refine jW_r (pc' := 105) ((u+i+k)) ((v%10)) K (by first | rfl | (congr 1; omega)) rfl rfl (by omega) (by omega)  rfl (by omega) fun h K => ?_
          refine jx (pc' := 109) (L' := [_, _, _, _, _, _, _, _]) (st' := [.int (zI 10), _]) 2 rfl ?_
          refine jidiv (pc' := 110) rfl rfl (by decide) rfl ?_
          rw [zdiv ⟨by omega, by omega⟩ ⟨by omega, by omega⟩]
          obtain ⟨p1, p2, p3⟩ := jn_s (V := W) (c := C) (u := u + i) (k := k) (low := low) (d := z) (v := y) (y := v % 10) (ca := ca) (ca' := ((v / 10 : Nat) : Int)) (x : Int) hl e hz.symm hy.symm (by rw [← hv]; push_cast; omega) (by omega)
          rw [p1] at K
          refine jx (pc' := 38) (L' := [_, _, _, _, _, _, _, _]) (st' := []) 3 rfl ?_
          try simp (disch := omega) only [kz, kzl0, kzl1, kzb, kzs, zI_add, zI_sub, zI_neg, zI_mul, zL_i, zI_l, zL_add, zL_sub, zL_neg]
          rw [show (k : Int) + 1 = ((k + 1 : Nat) : Int) by omega, show (v : Int) / 10 = ((v / 10 : Nat) : Int) by omega]
          exact ih2 (k + 1) (by omega) hd0 _ _ (v / 10) _ (by omega) p2 p3 K
      refine jx (pc' := 29) (L' := [_, _, _, _, _, _, _, _]) (st' := [.int (zI 40), _]) 2 rfl ?_
      refine jcn (pc' := 32) 124 rfl rfl rfl rfl (by rw [zc_ge ⟨by omega, by omega⟩ ⟨by omega, by omega⟩]; exact decide_eq_false (by omega)) ?_
      refine jx (pc' := 38) (L' := [_, _, _, _, _, _, _, _]) (st' := []) 4 rfl ?_
      try simp (disch := omega) only [kz, kzl0, kzl1, kzb, kzs, zI_add, zI_sub, zI_neg, zI_mul, zL_i, zI_l, zL_add, zL_sub, zL_neg]
      by_cases hd0 : A / 10 ^ i % 10 = 0
      · skip
        refine jx (pc' := 42) (L' := [_, _, _, _, _, _, _, _]) (st' := [.int (zI 41), _]) 2 rfl ?_
        refine jcn (pc' := 45) 118 rfl rfl rfl rfl (by rw [zc_ge ⟨by omega, by omega⟩ ⟨by omega, by omega⟩]; exact decide_eq_false (by omega)) ?_
        refine jx (pc' := 49) (L' := [_, _, _, _, _, _, _, _]) (st' := [_, _, _]) 3 rfl ?_
        refine jcv (pc' := 52) 198 [_, _] [] K.ob rfl rfl rfl rfl rfl rfl rfl rfl ?_
        refine m_at K rfl ha ⟨by omega, by omega⟩ (jk ?_)
        rw [hA, hat, hd0]
        refine jit (pc' := 118) rfl rfl rfl (by rfl) ?_
        refine jx (pc' := 25) (L' := [_, _, _, _, _, _, _, _]) (st' := []) 2 rfl ?_
        try simp (disch := omega) only [kz, kzl0, kzl1, kzb, kzs, zI_add, zI_sub, zI_neg, zI_mul, zL_i, zI_l, zL_add, zL_sub, zL_neg]
        rw [show (i : Int) + 1 = ((i + 1 : Nat) : Int) by omega]
        refine ih (i + 1) (by omega) _ _ _ _ ?_
        rw [estep, hd0, Nat.zero_mul, Nat.add_zero]
        exact K
      · have := inner 41 0 (by omega) hd0 h (W % 10 ^ (u + i)) 0 l7 (by omega) (by rw [Nat.add_zero]; exact Nat.mod_lt _ (pp0 _)) (by rw [Nat.add_zero, Nat.pow_zero, Nat.mod_one, Nat.zero_mul]; simp) (by
          have e := Nat.div_add_mod W (10 ^ (u + i))
          rw [Nat.mul_comm] at e
          rw [Nat.add_zero, e]
          exact K)
        exact this
  refine jx (pc' := 1) (L' := [_, _, _, _, _, _, _, _]) (st' := [_]) 1 rfl ?_
  refine jcv (pc' := 4) 204 [] [] K.ob rfl rfl rfl rfl rfl rfl rfl rfl ?_
  refine m_empty K fun h K => jk ?_
  refine jx (pc' := 8) (L' := [_, _, _, _, _, _, _, _]) (st' := [_, .int (zI 12500)]) 2 rfl ?_
  refine jgf (pc' := 11) K.ob rfl rfl rfl rfl rfl ?_
  refine jx (pc' := 12) (L' := [_, _, _, _, _, _, _, _]) (st' := [_, _, .int (zI 12500)]) 1 rfl ?_
  refine jR_p (pc' := 13) a K rfl rfl (by omega) (by omega)  rfl ?_
  refine jx (pc' := 15) (L' := [_, _, _, _, _, _, _, _]) (st' := [_, _]) 2 rfl ?_
  try simp (disch := omega) only [kz, kzl0, kzl1, kzb, kzs, zI_add, zI_sub, zI_neg, zI_mul, zL_i, zI_l, zL_add, zL_sub, zL_neg]
  refine jgf (pc' := 18) K.ob rfl rfl rfl rfl rfl ?_
  refine jx (pc' := 19) (L' := [_, _, _, _, _, _, _, _]) (st' := [_, _, _]) 1 rfl ?_
  refine jR_p (pc' := 20) c K rfl rfl (by omega) (by omega)  rfl ?_
  refine jx (pc' := 25) (L' := [_, _, _, _, _, _, _, _]) (st' := []) 4 rfl ?_
  try simp (disch := omega) only [kz, kzl0, kzl1, kzb, kzs, zI_add, zI_sub, zI_neg, zI_mul, zL_i, zI_l, zL_add, zL_sub, zL_neg]
  rw [show (12500 : Int) + (R a).2.2.2.1 + (R c).2.2.2.1 = (u : Int) by omega]
  refine outer 40 0 (by omega) h _ _ _ ?_
  rw [Nat.pow_zero, Nat.mod_one, Nat.zero_mul, Nat.zero_mul]
  exact K
end REF
