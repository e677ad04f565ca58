/-! ===== the reference: join, take ===== -/
section REF
variable {h : ix_H} {Q : ix_O → ix_H → Prop} {S0 : Nat → AC} {R : Nat → Dm} {V cd dr ra si tr : Nat} {mo ng : Bool} {sp sz wr : Nat} {il : Bool} {rs pt rl wo tx ou : Nat → Nat} {j x : Int} {r f s m : Nat} {b : Bool}
/-- one step of join, over whole numbers -/
theorem jn_s {V c u k low d v y : Nat} {ca ca' : Int} (sg : Int) (hlow : low < 10 ^ (u + k)) (e : (low : Int) + ca * (10 ^ (u + k) : Nat) = (V % 10 ^ (u + k) : Nat) + sg * (c % 10 ^ k * 10 ^ u : Nat)) (hd : d = V / 10 ^ (u + k) % 10) (hv : v = c / 10 ^ k % 10) (hy : (y : Int) + 10 * ca' = d + sg * v + ca) (hy10 : y < 10) : sd (V / 10 ^ (u + k) * 10 ^ (u + k) + low) (u + k) y = V / 10 ^ (u + (k + 1)) * 10 ^ (u + (k + 1)) + (low + y * 10 ^ (u + k)) ∧ low + y * 10 ^ (u + k) < 10 ^ (u + (k + 1)) ∧ ((low + y * 10 ^ (u + k) : Nat) : Int) + ca' * (10 ^ (u + (k + 1)) : Nat) = (V % 10 ^ (u + (k + 1)) : Nat) + sg * (c % 10 ^ (k + 1) * 10 ^ u : Nat) := by
  have hp := pp0 (u + k)
  have e10 : (10 : Nat) ^ (u + (k + 1)) = 10 * 10 ^ (u + k) := by rw [← Nat.add_assoc, Nat.pow_succ, Nat.mul_comm]
  have hy9 : y * 10 ^ (u + k) ≤ 9 * 10 ^ (u + k) := Nat.mul_le_mul_right _ (by omega)
  refine ⟨?_, by omega, ?_⟩
  · unfold sd
    rw [dgh _ hlow (by omega), show u + k + 1 - (u + k) = 1 by omega, Nat.pow_one, Nat.add_comm (V / 10 ^ (u + k) * 10 ^ (u + k)), Nat.add_mul_mod_self_right, Nat.mod_eq_of_lt hlow, Nat.div_div_eq_div_mul, ← Nat.pow_succ]
    show V / 10 ^ (u + k + 1) * 10 ^ (u + k + 1) + _ + _ = V / 10 ^ (u + k + 1) * 10 ^ (u + k + 1) + _
    omega
  · have m1 : V % 10 ^ (u + (k + 1)) = d * 10 ^ (u + k) + V % 10 ^ (u + k) := by rw [hd]; exact mod_s V (u + k)
    have m2 : c % 10 ^ (k + 1) * 10 ^ u = v * 10 ^ (u + k) + c % 10 ^ k * 10 ^ u := by rw [hv, mod_s, Nat.add_mul, Nat.mul_assoc, ← Nat.pow_add, Nat.add_comm k u]
    rw [m1, m2, e10]
    generalize V % 10 ^ (u + k) = A at *
    generalize c % 10 ^ k * 10 ^ u = B at *
    generalize 10 ^ (u + k) = P at *
    have h1 : (y : Int) * P + 10 * ca' * P = d * P + sg * v * P + ca * P := by rw [← Int.add_mul, hy, Int.add_mul, Int.add_mul]
    push_cast
    have h2 : ca' * (10 * (P : Int)) = 10 * ca' * P := by rw [← Int.mul_assoc, Int.mul_comm ca' 10]
    have h3 : sg * ((v : Int) * P + B) = sg * v * P + sg * B := by rw [Int.mul_add, ← Int.mul_assoc]
    rw [h2, h3]
    omega
theorem m_join {q0 : Int} (K : (RI S0 h R V cd dr ra si tr mo ng sp sz wr il rs pt rl wo tx ou)) (hj : j = (r : Int)) (hr : r < 12) (u : Nat) (hu : (u : Int) = 12500 + q0) (hu2 : u + 50 ≤ 25400) (hs : b = false → V + (R r).2.2.2.2 * 10 ^ u < 10 ^ aL) (q : ∀ h', (RI S0 h' R (if b then (if (R r).2.2.2.2 * 10 ^ u ≤ V then V - (R r).2.2.2.2 * 10 ^ u else (R r).2.2.2.2 * 10 ^ u - V) else V + (R r).2.2.2.2 * 10 ^ u) cd dr ra si tr mo (if b = true ∧ V < (R r).2.2.2.2 * 10 ^ u then !ng else ng) sp sz wr il rs pt rl wo tx ou) → Q (.inl none) h') : ix_M 206 [.ref 98, .int (zI j), .int (zI q0), .int (bI b)] h Q := by
  subst hj
  have hv := (K.rv hr).2.2.2.2
  have hV := K.vb
  have hcu : (R r).2.2.2.2 * 10 ^ u < 10 ^ aL := by
    have h1 : (R r).2.2.2.2 * 10 ^ u < 10 ^ 40 * 10 ^ u := Nat.mul_lt_mul_of_pos_right hv (pp0 u)
    rw [← Nat.pow_add] at h1
    exact Nat.lt_of_lt_of_le h1 (pl (by unfold aL; omega))
  generalize hc : (R r).2.2.2.2 = c at *
  -- all digits are joined, and no carry is left
  have fin0 : ∀ (k low : Nat) (h1 : ix_H), c % 10 ^ k = c → low < 10 ^ (u + k) → (low : Int) = (V % 10 ^ (u + k) : Nat) + (if b then -1 else 1) * (c * 10 ^ u : Nat) → (RI S0 h1 R (V / 10 ^ (u + k) * 10 ^ (u + k) + low) cd dr ra si tr mo ng sp sz wr il rs pt rl wo tx ou) → Q (.inl none) h1 := by
    intro k low h1 hck hl e K
    have hVd : V = V / 10 ^ (u + k) * 10 ^ (u + k) + V % 10 ^ (u + k) := by
      have := Nat.div_add_mod V (10 ^ (u + k))
      rw [Nat.mul_comm] at this
      exact this.symm
    cases b
    · refine q _ ?_
      rw [if_neg (by decide), if_neg (fun z => by cases z.1)]
      have : V / 10 ^ (u + k) * 10 ^ (u + k) + low = V + c * 10 ^ u := by
        rw [if_neg (by decide)] at e
        omega
      rw [← this]
      exact K
    · rw [if_pos rfl] at e
      have hle : c * 10 ^ u ≤ V := by omega
      refine q _ ?_
      rw [if_pos rfl, if_pos hle, if_neg (fun z => by have := z.2; omega)]
      have : V / 10 ^ (u + k) * 10 ^ (u + k) + low = V - c * 10 ^ u := by omega
      rw [← this]
      exact K
  have loop : ∀ n k : Nat, u + k + n = 25400 → ∀ (h1 : ix_H) (low : Nat) (ca : Int) (l6 : Option Value), (-1 ≤ ca ∧ ca ≤ 1) → low < 10 ^ (u + k) → (low : Int) + ca * (10 ^ (u + k) : Nat) = (V % 10 ^ (u + k) : Nat) + (if b then -1 else 1) * (c % 10 ^ k * 10 ^ u : Nat) → (RI S0 h1 R (V / 10 ^ (u + k) * 10 ^ (u + k) + low) cd dr ra si tr mo ng sp sz wr il rs pt rl wo tx ou) → ix_E 206 6 [some (.ref 98), some (.int (zI (r : Int))), some (.int (zI q0)), some (.int (bI b)), some (.int (zI ca)), some (.int (zI (k : Int))), l6] [] h1 Q := by
    intro n
    induction n with
    | zero =>
      intro k hk h low ca l6 hca hl e K
      have ek : u + k = aL := by unfold aL; omega
      have hck : c % 10 ^ k = c := Nat.mod_eq_of_lt (Nat.lt_of_lt_of_le hv (pl (by omega)))
      have e' := e
      rw [hck, ek, Nat.mod_eq_of_lt hV] at e'
      have hl' := hl
      rw [ek] at hl'
      generalize hN : 10 ^ aL = N at *
      refine jx (pc' := 17) (L' := [_, _, _, _, _, _, _]) (st' := [.int (zI 25400), _]) 6 rfl ?_
      try simp (disch := omega) only [kz, kzl0, kzl1, kzb, kzs, zI_add, zI_sub, zI_neg, zI_mul, zL_i, zI_l, zL_add, zL_sub, zL_neg]
      refine jct (pc' := 117) rfl rfl rfl (by rw [zc_ge ⟨by omega, by omega⟩ ⟨by omega, by omega⟩]; exact decide_eq_true (by omega)) ?_
      refine jx (pc' := 118) (L' := [_, _, _, _, _, _, _]) (st' := [_]) 1 rfl ?_
      cases b
      · rw [if_neg (by decide)] at e'
        have h0 := hs rfl
        have hca0 : ca = 0 := by
          rcases (show ca = -1 ∨ ca = 0 ∨ ca = 1 by omega) with z | z | z <;> rw [z] at e' ⊢ <;> omega
        refine jit (pc' := 130) rfl rfl rfl (by rfl) ?_
        refine ix_qr _ rfl rfl rfl ?_
        refine fin0 k low h hck hl ?_ K
        rw [hca0, hck] at e
        omega
      · rw [if_pos rfl] at e'
        refine jin (pc' := 121) 130 rfl rfl rfl rfl (by rfl) ?_
        refine jx (pc' := 123) (L' := [_, _, _, _, _, _, _]) (st' := [_]) 1 rfl ?_
        by_cases h0 : ca = 0
        · skip
          refine jit (pc' := 130) rfl rfl rfl (by rw [zz_eq ⟨by omega, by omega⟩]; exact decide_eq_true (by omega)) ?_
          refine ix_qr _ rfl rfl rfl ?_
          refine fin0 k low h hck hl ?_ K
          rw [h0, hck] at e
          omega
        · have hcm : ca = -1 := by
            rcases (show ca = -1 ∨ ca = 0 ∨ ca = 1 by omega) with z | z | z
            · exact z
            · exact absurd z h0
            · rw [z] at e'; omega
          refine jin (pc' := 126) 130 rfl rfl rfl rfl (by rw [zz_eq ⟨by omega, by omega⟩]; exact decide_eq_false (by omega)) ?_
          refine jx (pc' := 127) (L' := [_, _, _, _, _, _, _]) (st' := [_]) 1 rfl ?_
          refine jcv (pc' := 130) 207 [] [] K.ob rfl rfl rfl rfl rfl rfl rfl rfl ?_
          refine m_turnRound K fun h K => jk ?_
          refine ix_qr _ rfl rfl rfl ?_
          rw [hcm] at e'
          have hlt : V < c * 10 ^ u := by omega
          refine q _ ?_
          rw [if_pos rfl, if_neg (by omega), if_pos ⟨rfl, hlt⟩]
          rw [ek, hN, Nat.div_eq_of_lt hV, Nat.zero_mul, Nat.zero_add] at K
          have : (N - low) % N = c * 10 ^ u - V := by
            rw [Nat.mod_eq_of_lt (by omega)]
            omega
          rw [← this]
          exact K
    | succ n ih =>
      intro k hk h low ca l6 hca hl e K
      have hb := dg_b V (u + k)
      have hbc := dg_b c k
      have hat : atD c (k : Int) = c / 10 ^ k % 10 := by unfold atD; rw [if_neg (by omega)]; rfl
      have ed : (V / 10 ^ (u + k) * 10 ^ (u + k) + low) / 10 ^ (u + k) % 10 = V / 10 ^ (u + k) % 10 := by
        rw [dgh _ hl (Nat.le_refl _), Nat.sub_self, Nat.pow_zero, Nat.div_one]
      have t55 : ∀ sv : Int, sv = (if b then -1 else 1) * (c / 10 ^ k % 10 : Nat) → ix_E 206 55 [some (.ref 98), some (.int (zI (r : Int))), some (.int (zI q0)), some (.int (bI b)), some (.int (zI ca)), some (.int (zI (k : Int))), l6] [.int (zI sv), .int (zI (V / 10 ^ (u + k) % 10 : Nat))] h Q := by
        intro sv hsv
        have hsb : -9 ≤ sv ∧ sv ≤ 9 := by rw [hsv]; split <;> omega
        generalize hvv : ((V / 10 ^ (u + k) % 10 : Nat) : Int) + sv + ca = v at *
        have hvb : -10 ≤ v ∧ v ≤ 19 := by omega
        refine jx (pc' := 62) (L' := [_, _, _, _, _, _, _]) (st' := [_]) 5 rfl ?_
        try simp (disch := omega) only [kz, kzl0, kzl1, kzb, kzs, zI_add, zI_sub, zI_neg, zI_mul, zL_i, zI_l, zL_add, zL_sub, zL_neg]
        refine jgf (pc' := 65) K.ob rfl rfl rfl rfl rfl ?_
        refine jx (pc' := 80) (L' := [_, _, _, _, _, _, _]) (st' := [.int (zI 10), _, _, _]) 9 rfl ?_
        try simp (disch := omega) only [kz, kzl0, kzl1, kzb, kzs, zI_add, zI_sub, zI_neg, zI_mul, zL_i, zI_l, zL_add, zL_sub, zL_neg]
        rw [hvv]
        refine jirem (pc' := 81) rfl rfl (by decide) rfl ?_
        rw [zrem ⟨by omega, by omega⟩ ⟨by omega, by omega⟩]
        refine jW_r (pc' := 82) ((u+k)) (((v+10)%10).toNat) K (by first | rfl | (congr 1; omega)) rfl rfl (by omega) (by omega)  rfl (by omega) fun h K => ?_
        have t96 : ∀ ca' : Int, ca' = (if v < 0 then -1 else v / 10) → ix_E 206 96 [some (.ref 98), some (.int (zI (r : Int))), some (.int (zI q0)), some (.int (bI b)), some (.int (zI ca)), some (.int (zI (k : Int))), some (.int (zI v))] [.int (zI ca')] h Q := by
          intro ca' hca'
          have hcb : -1 ≤ ca' ∧ ca' ≤ 1 := by rw [hca']; split <;> omega
          have hy : ((((v + 10) % 10).toNat : Nat) : Int) + 10 * ca' = v := by rw [hca']; split <;> omega
          obtain ⟨p1, p2, p3⟩ := jn_s (V := V) (c := c) (u := u) (k := k) (low := low) (d := V / 10 ^ (u + k) % 10) (v := c / 10 ^ k % 10) (y := ((v + 10) % 10).toNat) (ca := ca) (ca' := ca') (if b then -1 else 1) hl e rfl rfl (by rw [hy, ← hvv, hsv]) (by omega)
          rw [p1] at K
          refine jx (pc' := 102) (L' := [_, _, _, _, _, _, _]) (st' := [.int (zI 40), _]) 3 rfl ?_
          have nxt := ih (k + 1) (by omega) h _ ca' (some (.int (zI v))) hcb p2 p3 K
          rw [← show (k : Int) + 1 = ((k + 1 : Nat) : Int) by omega] at nxt
          by_cases hk : 40 < k
          · skip
            refine jcn (pc' := 105) 111 rfl rfl rfl rfl (by rw [zc_le ⟨by omega, by omega⟩ ⟨by omega, by omega⟩]; exact decide_eq_false (by omega)) ?_
            refine jx (pc' := 107) (L' := [_, _, _, _, _, _, _]) (st' := [_]) 1 rfl ?_
            by_cases h0 : ca' = 0
            · skip
              refine jin (pc' := 110) 111 rfl rfl rfl rfl (by rw [zz_ne ⟨by omega, by omega⟩]; exact decide_eq_false (by omega)) ?_
              refine ix_qr _ rfl rfl rfl ?_
              have hck : c % 10 ^ (k + 1) = c := Nat.mod_eq_of_lt (Nat.lt_of_lt_of_le hv (pl (by omega)))
              refine fin0 (k + 1) _ h hck p2 ?_ K
              rw [hck, h0] at p3
              rw [Int.zero_mul, Int.add_zero] at p3
              exact p3
            · skip
              refine jit (pc' := 111) rfl rfl rfl (by rw [zz_ne ⟨by omega, by omega⟩]; exact decide_eq_true (by omega)) ?_
              refine jx (pc' := 6) (L' := [_, _, _, _, _, _, _]) (st' := []) 2 rfl ?_
              try simp (disch := omega) only [kz, kzl0, kzl1, kzb, kzs, zI_add, zI_sub, zI_neg, zI_mul, zL_i, zI_l, zL_add, zL_sub, zL_neg]
              exact nxt
          · skip
            refine jct (pc' := 111) rfl rfl rfl (by rw [zc_le ⟨by omega, by omega⟩ ⟨by omega, by omega⟩]; exact decide_eq_true (by omega)) ?_
            refine jx (pc' := 6) (L' := [_, _, _, _, _, _, _]) (st' := []) 2 rfl ?_
            try simp (disch := omega) only [kz, kzl0, kzl1, kzb, kzs, zI_add, zI_sub, zI_neg, zI_mul, zL_i, zI_l, zL_add, zL_sub, zL_neg]
            exact nxt
        refine jx (pc' := 84) (L' := [_, _, _, _, _, _, _]) (st' := [_]) 1 rfl ?_
        by_cases hv0 : v < 0
        · skip
          refine jin (pc' := 87) 91 rfl rfl rfl rfl (by rw [zz_ge ⟨by omega, by omega⟩]; exact decide_eq_false (by omega)) ?_
          refine jx (pc' := 96) (L' := [_, _, _, _, _, _, _]) (st' := [.int (zI (-1))]) 2 rfl ?_
          exact t96 (-1) (by rw [if_pos hv0])
        · skip
          refine jit (pc' := 91) rfl rfl rfl (by rw [zz_ge ⟨by omega, by omega⟩]; exact decide_eq_true (by omega)) ?_
          refine jx (pc' := 95) (L' := [_, _, _, _, _, _, _]) (st' := [.int (zI 10), _]) 2 rfl ?_
          refine jidiv (pc' := 96) rfl rfl (by decide) rfl ?_
          rw [zdiv ⟨by omega, by omega⟩ ⟨by omega, by omega⟩]
          exact t96 _ (by rw [if_neg hv0])
      refine jx (pc' := 17) (L' := [_, _, _, _, _, _, _]) (st' := [.int (zI 25400), _]) 6 rfl ?_
      try simp (disch := omega) only [kz, kzl0, kzl1, kzb, kzs, zI_add, zI_sub, zI_neg, zI_mul, zL_i, zI_l, zL_add, zL_sub, zL_neg]
      refine jcn (pc' := 20) 117 rfl rfl rfl rfl (by rw [zc_ge ⟨by omega, by omega⟩ ⟨by omega, by omega⟩]; exact decide_eq_false (by omega)) ?_
      refine jx (pc' := 21) (L' := [_, _, _, _, _, _, _]) (st' := [_]) 1 rfl ?_
      refine jgf (pc' := 24) K.ob rfl rfl rfl rfl rfl ?_
      refine jx (pc' := 32) (L' := [_, _, _, _, _, _, _]) (st' := [_, _]) 5 rfl ?_
      try simp (disch := omega) only [kz, kzl0, kzl1, kzb, kzs, zI_add, zI_sub, zI_neg, zI_mul, zL_i, zI_l, zL_add, zL_sub, zL_neg]
      refine jR_r (pc' := 33) ((u+k)) K rfl rfl (by omega) (by omega)  rfl ?_
      rw [ed]
      refine jx (pc' := 34) (L' := [_, _, _, _, _, _, _]) (st' := [_, _]) 1 rfl ?_
      cases b
      · skip
        refine jit (pc' := 48) rfl rfl rfl (by rfl) ?_
        refine jx (pc' := 52) (L' := [_, _, _, _, _, _, _]) (st' := [_, _, _, _]) 3 rfl ?_
        refine jcv (pc' := 55) 198 [_, _] [_] K.ob rfl rfl rfl rfl rfl rfl rfl rfl ?_
        refine m_at K rfl hr ⟨by omega, by omega⟩ (jk ?_)
        rw [hc, hat]
        exact t55 _ (by rw [if_neg (by decide)]; omega)
      · skip
        refine jin (pc' := 37) 48 rfl rfl rfl rfl (by rfl) ?_
        refine jx (pc' := 41) (L' := [_, _, _, _, _, _, _]) (st' := [_, _, _, _]) 3 rfl ?_
        refine jcv (pc' := 44) 198 [_, _] [_] K.ob rfl rfl rfl rfl rfl rfl rfl rfl ?_
        refine m_at K rfl hr ⟨by omega, by omega⟩ (jk ?_)
        rw [hc, hat]
        refine jx (pc' := 55) (L' := [_, _, _, _, _, _, _]) (st' := [_, _]) 2 rfl ?_
        try simp (disch := omega) only [kz, kzl0, kzl1, kzb, kzs, zI_add, zI_sub, zI_neg, zI_mul, zL_i, zI_l, zL_add, zL_sub, zL_neg]
        exact t55 _ (by rw [if_pos rfl]; omega)
  refine jx (pc' := 6) (L' := [_, _, _, _, _, _, _]) (st' := []) 4 rfl ?_
  try simp (disch := omega) only [kz, kzl0, kzl1, kzb, kzs, zI_add, zI_sub, zI_neg, zI_mul, zL_i, zI_l, zL_add, zL_sub, zL_neg]
  refine loop (25400 - u) 0 (by omega) h (V % 10 ^ u) 0 _ ⟨by omega, by omega⟩ (Nat.mod_lt _ (pp0 _)) ?_ ?_
  · rw [Nat.pow_zero, Nat.mod_one, Nat.zero_mul]
    simp
  · have := Nat.div_add_mod V (10 ^ u)
    rw [Nat.mul_comm] at this
    rw [Nat.add_zero, this]
    exact K
end REF
