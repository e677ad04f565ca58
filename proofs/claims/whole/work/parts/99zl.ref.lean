/-! ===== the reference: toPower, quantize, toWhole ===== -/
theorem nin_d : ∀ k : Nat, k < 40 → (10 ^ 40 - 1) / 10 ^ k % 10 = 9 := by decide
theorem tp_up {e : Int} {c u : Nat} (hc : c < 10 ^ 34) (h : ¬ pV e c % 10 ^ u = 0) : pV e c / 10 ^ u + 1 < 10 ^ 40 := by
  have hj : (12500 + e).toNat < u := by
    refine Nat.lt_of_not_le fun z => h ?_
    unfold pV
    rw [show (12500 + e).toNat = (12500 + e).toNat - u + u by omega, Nat.pow_add, ← Nat.mul_assoc, Nat.mul_mod_left]
  have h1 : pV e c / 10 ^ u ≤ c := by
    have h2 : pV e c / 10 ^ u ≤ pV e c / 10 ^ (12500 + e).toNat := Nat.div_le_div_left (pl (by omega)) (pp0 _)
    have h3 : pV e c / 10 ^ (12500 + e).toNat = c := Nat.mul_div_cancel _ (pp0 _)
    omega
  have h4 : (10 : Nat) ^ 34 < 10 ^ 40 := by decide
  omega
section REF
variable {h : ix_H} {Q : ix_O → ix_H → Prop} {S0 : Nat → AC} {R : Nat → Dm} {V cd dr ra si tr : Nat} {mo ng : Bool} {sp sz wr : Nat} {il : Bool} {rs pt rl wo tx ou : Nat → Nat} {j x : Int} {r f s m a : Nat} {b t : Bool}
theorem m_toPower {q0 m0 : Int} (K : (RI S0 h R V cd dr ra si tr mo ng sp sz wr il rs pt rl wo tx ou)) (vA : ValD (R 9)) (hq : -12400 ≤ q0 ∧ q0 ≤ 12000) (hm0 : m0 = (m : Int)) (hm : m < 5) (q : ∀ h', (RJ S0 h' (va_up R 8 ((R 9).1, 0, (R 9).2.2.1, q0, tpC m (R 9).2.2.1 (R 9).2.2.2.1 q0 (R 9).2.2.2.2)) cd dr ra (if tpI (R 9).2.2.2.1 q0 (R 9).2.2.2.2 then si ||| 16 else si) tr sz wr tx ou) → Q (.inl none) h') : ix_M 231 [.ref 98, .int (zI 9), .int (zI q0), .int (zI m0)] h Q := by
  subst hm0
  have bA := Val.b vA
  have cA := Val.c34 vA
  have fA := vA.1
  have hdA := dgs_le cA
  obtain ⟨u, hu⟩ : ∃ u : Nat, (u : Int) = 12500 + q0 := ⟨(12500 + q0).toNat, by omega⟩
  have hu1 : (((12500 + (R 9).2.2.2.1).toNat : Nat) : Int) = 12500 + (R 9).2.2.2.1 := by omega
  have hup := tp_up (e := (R 9).2.2.2.1) (c := (R 9).2.2.2.2) (u := u) cA
  have hWd : (R 9).2.2.2.2 * 10 ^ (12500 + (R 9).2.2.2.1).toNat = pV (R 9).2.2.2.1 (R 9).2.2.2.2 := rfl
  have hWl : dgs (pV (R 9).2.2.2.1 (R 9).2.2.2.2) ≤ 25400 := by
    have := dgs_le (dgs_sh (R 9).2.2.2.2 (12500 + (R 9).2.2.2.1).toNat)
    have e0 : dgs (pV (R 9).2.2.2.1 (R 9).2.2.2.2) = dgs ((R 9).2.2.2.2 * 10 ^ (12500 + (R 9).2.2.2.1).toNat) := rfl
    omega
  unfold tpC tpI at q
  rw [← hu, Int.toNat_natCast] at q
  have hx := cut_w (pV (R 9).2.2.2.1 (R 9).2.2.2.2 / 10 ^ u) u m (R 9).2.2.1 (by omega)
  have hy := cutV_u (V := pV (R 9).2.2.2.1 (R 9).2.2.2.2) (mo := false) (ng := (R 9).2.2.1) (u := u) (dr := m) (by omega) hm
  have hdm := Nat.div_add_mod (pV (R 9).2.2.2.1 (R 9).2.2.2.2) (10 ^ u)
  generalize hW : pV (R 9).2.2.2.1 (R 9).2.2.2.2 = W at *
  have t176 : ∀ (h1 : ix_H) (c7 l8 : Option Value) (up : Bool), (RI S0 h1 (va_up R 8 ((R 9).1, 0, (R 9).2.2.1, q0, (if 41 + u ≤ dgs W then 10 ^ 40 - 1 else cutV W u false m (R 9).2.2.1))) (W) cd dr ra si tr (false) ng sp sz wr il rs pt rl wo tx ou) → ix_E 231 176 [some (.ref 98), some (.int (zI 9)), some (.int (zI q0)), some (.int (zI (m : Int))), some (.int (zI (12500 + q0))), some (.int (bI (!decide (¬ W % 10 ^ u = 0)))), some (.int (bI up)), c7, l8] [] h1 Q := by
    intro h c7 l8 up K
    refine jx (pc' := 177) (L' := [_, _, _, _, _, _, _, _, _]) (st' := [_]) 1 rfl ?_
    refine jgf (pc' := 180) K.ob rfl rfl rfl rfl rfl ?_
    refine jx (pc' := 183) (L' := [_, _, _, _, _, _, _, _, _]) (st' := [_, .int (zI 8), _]) 2 rfl ?_
    refine jW_p (pc' := 184) 8 q0 K (by first | rfl | (congr 1; omega)) rfl rfl (by omega) (by omega)  rfl ⟨by omega, by omega⟩ fun h K => ?_
    rw [va_up_self, va_up_up] at K
    refine jx (pc' := 186) (L' := [_, _, _, _, _, _, _, _, _]) (st' := [_]) 1 rfl ?_
    by_cases h0 : W % 10 ^ u = 0
    · have hdc : decide (¬ W % 10 ^ u = 0) = false := decide_eq_false (fun z => z h0)
      simp only [hdc, Bool.false_eq_true, if_false] at q
      refine jit (pc' := 200) rfl rfl rfl (by rw [decide_eq_false (fun z => z h0)]; rfl) ?_
      refine ix_qr _ rfl rfl rfl ?_
      exact q _ K.rj
    · have hdc : decide (¬ W % 10 ^ u = 0) = true := decide_eq_true h0
      simp only [hdc, if_true] at q
      refine jin (pc' := 189) 200 rfl rfl rfl rfl (by rw [decide_eq_true h0]; rfl) ?_
      refine jx (pc' := 191) (L' := [_, _, _, _, _, _, _, _, _]) (st' := [_, _]) 2 rfl ?_
      refine jgf (pc' := 194) K.ob rfl rfl rfl rfl rfl ?_
      refine jx (pc' := 197) (L' := [_, _, _, _, _, _, _, _, _]) (st' := [_, _]) 2 rfl ?_
      try simp (disch := omega) only [kz, kzl0, kzl1, kzb, kzs, zI_add, zI_sub, zI_neg, zI_mul, zL_i, zI_l, zL_add, zL_sub, zL_neg]
      refine jp_si (pc' := 200) ((si ||| 16)) K (zor si 16) rfl rfl rfl rfl fun h K => ?_
      refine ix_qr _ rfl rfl rfl ?_
      exact q _ K.rj
  have t116 : ∀ (h1 : ix_H) (up : Bool), cutV W u false m (R 9).2.2.1 = W / 10 ^ u + up.toNat → (up = true → ¬ W % 10 ^ u = 0) → (RI S0 h1 (va_up R 8 ((R 9).1, 0, (R 9).2.2.1, q0, 0)) (W) cd dr ra si tr (false) ng sp sz wr il rs pt rl wo tx ou) → ix_E 231 116 [some (.ref 98), some (.int (zI 9)), some (.int (zI q0)), some (.int (zI (m : Int))), some (.int (zI (12500 + q0))), some (.int (bI (!decide (¬ W % 10 ^ u = 0)))), some (.int (bI up)), none, none] [] h1 Q := by
    intro h up hcv hu2 K
    have loop : ∀ n k : Nat, k + n = 40 → ∀ (h1 : ix_H) (c0 : Nat), c0 < 10 ^ 40 → 41 + u ≤ dgs W → (RI S0 h1 (va_up R 8 ((R 9).1, 0, (R 9).2.2.1, q0, c0 / 10 ^ k * 10 ^ k + (10 ^ 40 - 1) % 10 ^ k)) (W) cd dr ra si tr (false) ng sp sz wr il rs pt rl wo tx ou) → ix_E 231 150 [some (.ref 98), some (.int (zI 9)), some (.int (zI q0)), some (.int (zI (m : Int))), some (.int (zI (12500 + q0))), some (.int (bI (!decide (¬ W % 10 ^ u = 0)))), some (.int (bI up)), some (.int (bI true)), some (.int (zI (k : Int)))] [] h1 Q := by
      intro n
      induction n with
      | zero =>
        intro k hk h c0 hc0 hw K
        obtain rfl : k = 40 := by omega
        refine jx (pc' := 154) (L' := [_, _, _, _, _, _, _, _, _]) (st' := [.int (zI 40), _]) 2 rfl ?_
        refine jct (pc' := 176) rfl rfl rfl (by rw [zc_ge ⟨by omega, by omega⟩ ⟨by omega, by omega⟩]; exact decide_eq_true (by omega)) ?_
        rw [Nat.div_eq_of_lt hc0, Nat.zero_mul, Nat.zero_add] at K
        refine t176 h _ _ up ?_
        rw [if_pos hw]
        exact K
      | succ n ih =>
        intro k hk h c0 hc0 hw K
        refine jx (pc' := 154) (L' := [_, _, _, _, _, _, _, _, _]) (st' := [.int (zI 40), _]) 2 rfl ?_
        refine jcn (pc' := 157) 176 rfl rfl rfl rfl (by rw [zc_ge ⟨by omega, by omega⟩ ⟨by omega, by omega⟩]; exact decide_eq_false (by omega)) ?_
        refine jx (pc' := 158) (L' := [_, _, _, _, _, _, _, _, _]) (st' := [_]) 1 rfl ?_
        refine jgf (pc' := 161) K.ob rfl rfl rfl rfl rfl ?_
        refine jx (pc' := 169) (L' := [_, _, _, _, _, _, _, _, _]) (st' := [.int (zI 9), _, _]) 4 rfl ?_
        try simp (disch := omega) only [kz, kzl0, kzl1, kzb, kzs, zI_add, zI_sub, zI_neg, zI_mul, zL_i, zI_l, zL_add, zL_sub, zL_neg]
        refine jW_d (pc' := 170) 8 k 9 K (by first | rfl | (congr 1; omega)) rfl rfl (by omega) (by omega) (by omega)  rfl (by omega) fun h K => ?_
        have e := sd_cp c0 (10 ^ 40 - 1) k
        rw [nin_d k (by omega)] at e
        rw [va_up_self, va_up_up, e] at K
        refine jx (pc' := 150) (L' := [_, _, _, _, _, _, _, _, _]) (st' := []) 2 rfl ?_
        try simp (disch := omega) only [kz, kzl0, kzl1, kzb, kzs, zI_add, zI_sub, zI_neg, zI_mul, zL_i, zI_l, zL_add, zL_sub, zL_neg]
        rw [show (k : Int) + 1 = ((k + 1 : Nat) : Int) by omega]
        exact ih (k + 1) (by omega) h c0 hc0 hw K
    have t133 : ∀ wd : Bool, wd = decide (41 + u ≤ dgs W) → ix_E 231 133 [some (.ref 98), some (.int (zI 9)), some (.int (zI q0)), some (.int (zI (m : Int))), some (.int (zI (12500 + q0))), some (.int (bI (!decide (¬ W % 10 ^ u = 0)))), some (.int (bI up)), none, none] [.int (bI wd)] h Q := by
      intro wd hwd
      refine jx (pc' := 139) (L' := [_, _, _, _, _, _, _, _, _]) (st' := [_, _, _]) 4 rfl ?_
      refine jcv (pc' := 142) 214 [_, _] [] K.ob rfl rfl rfl rfl rfl rfl rfl rfl ?_
      refine m_take K u hu ⟨by omega, by omega⟩ (fun z => ?_) fun h K => jk ?_
      · have h1 := hup (hu2 z)
        rw [Nat.mod_eq_of_lt (by omega)]
        exact h1
      · simp only [va_up_self, va_up_up, ite_self] at K
        refine jx (pc' := 144) (L' := [_, _, _, _, _, _, _, _, _]) (st' := [_]) 1 rfl ?_
        cases wd
        · have hw := of_decide_eq_false hwd.symm
          refine jit (pc' := 176) rfl rfl rfl (by rfl) ?_
          refine t176 h _ _ up ?_
          rw [if_neg hw, hcv]
          rw [Nat.mod_eq_of_lt (dgs_pr (show dgs W ≤ u + 40 by omega))] at K
          exact K
        · have hw := of_decide_eq_true hwd.symm
          refine jin (pc' := 147) 176 rfl rfl rfl rfl (by rfl) ?_
          refine jx (pc' := 150) (L' := [_, _, _, _, _, _, _, _, _]) (st' := []) 2 rfl ?_
          try simp (disch := omega) only [kz, kzl0, kzl1, kzb, kzs, zI_add, zI_sub, zI_neg, zI_mul, zL_i, zI_l, zL_add, zL_sub, zL_neg]
          have hc0 : W / 10 ^ u % 10 ^ 40 + up.toNat < 10 ^ 40 := by
            cases hb : up
            · exact Nat.mod_lt _ (pp0 40)
            · have h1 := hup (hu2 hb)
              rw [Nat.mod_eq_of_lt (by omega)]
              exact h1
          refine loop 40 0 (by omega) h _ hc0 hw ?_
          rw [Nat.pow_zero, Nat.div_one, Nat.mul_one, Nat.mod_one, Nat.add_zero]
          exact K
    refine jx (pc' := 117) (L' := [_, _, _, _, _, _, _, _, _]) (st' := [_]) 1 rfl ?_
    refine jcv (pc' := 120) 211 [] [] K.ob rfl rfl rfl rfl rfl rfl rfl rfl ?_
    refine m_first K fun hd => jk ?_
    refine jx (pc' := 125) (L' := [_, _, _, _, _, _, _, _, _]) (st' := [.int (zI 40), _]) 3 rfl ?_
    try simp (disch := omega) only [kz, kzl0, kzl1, kzb, kzs, zI_add, zI_sub, zI_neg, zI_mul, zL_i, zI_l, zL_add, zL_sub, zL_neg]
    by_cases hw : 41 + u ≤ dgs W
    · skip
      refine jcn (pc' := 128) 132 rfl rfl rfl rfl (by rw [zc_lt ⟨by omega, by omega⟩ ⟨by omega, by omega⟩]; exact decide_eq_false (by omega)) ?_
      refine jx (pc' := 133) (L' := [_, _, _, _, _, _, _, _, _]) (st' := [.int (zI 1)]) 2 rfl ?_
      exact t133 true (decide_eq_true hw).symm
    · skip
      refine jct (pc' := 132) rfl rfl rfl (by rw [zc_lt ⟨by omega, by omega⟩ ⟨by omega, by omega⟩]; exact decide_eq_true (by omega)) ?_
      refine jx (pc' := 133) (L' := [_, _, _, _, _, _, _, _, _]) (st' := [.int (zI 0)]) 1 rfl ?_
      exact t133 false (decide_eq_false hw).symm
  have t54 : ∀ (h1 : ix_H) (ex : Bool), ex = (!decide (¬ W % 10 ^ u = 0)) → (RI S0 h1 (va_up R 8 ((R 9).1, 0, (R 9).2.2.1, q0, 0)) (W) cd dr ra si tr (false) ng sp sz wr il rs pt rl wo tx ou) → ix_E 231 54 [some (.ref 98), some (.int (zI 9)), some (.int (zI q0)), some (.int (zI (m : Int))), some (.int (zI (12500 + q0))), none, none, none, none] [.int (bI ex)] h1 Q := by
    intro h ex hex K
    by_cases h0 : W % 10 ^ u = 0
    · have e1 : ex = true := by rw [hex, decide_eq_false (fun z => z h0)]; rfl
      have t := t116 h false (by
        have := hx.2
        rw [h0, Nat.add_zero, Nat.mul_comm] at hdm
        rw [hdm] at this
        rw [this]
        rfl) (fun z => nomatch z) K
      rw [← hex] at t
      subst e1
      refine jx (pc' := 58) (L' := [_, _, _, _, _, _, _, _, _]) (st' := [_]) 2 rfl ?_
      refine jit (pc' := 113) rfl rfl rfl (by rfl) ?_
      refine jx (pc' := 116) (L' := [_, _, _, _, _, _, _, _, _]) (st' := []) 2 rfl ?_
      try simp (disch := omega) only [kz, kzl0, kzl1, kzb, kzs, zI_add, zI_sub, zI_neg, zI_mul, zL_i, zI_l, zL_add, zL_sub, zL_neg]
      exact t
    · have e1 : ex = false := by rw [hex, decide_eq_true h0]; rfl
      have t : ∀ up : Bool, _ → _ → _ := fun up a b => t116 h up a b K
      rw [← hex] at t
      subst e1
      have hd1 := dg_b W (u - 1)
      have hd2 := dg_b W u
      have fin : ∀ od : Bool, od = decide (W / 10 ^ u % 10 % 2 = 1) → ix_E 231 86 [some (.ref 98), some (.int (zI 9)), some (.int (zI q0)), some (.int (zI (m : Int))), some (.int (zI (12500 + q0))), some (.int (bI false)), none, none, none] [.int (bI od), .int (bI (R 9).2.2.1), .int (zI (m : Int))] h Q := by
        intro od hod
        refine jx (pc' := 87) (L' := [_, _, _, _, _, _, _, _, _]) (st' := [_, _, _, _]) 1 rfl ?_
        refine jgf (pc' := 90) K.ob rfl rfl rfl rfl rfl ?_
        refine jx (pc' := 94) (L' := [_, _, _, _, _, _, _, _, _]) (st' := [_, _, _, _, _]) 3 rfl ?_
        try simp (disch := omega) only [kz, kzl0, kzl1, kzb, kzs, zI_add, zI_sub, zI_neg, zI_mul, zL_i, zI_l, zL_add, zL_sub, zL_neg]
        refine jR_r (pc' := 95) ((u-1)) K rfl rfl (by omega) (by omega)  rfl ?_
        refine jx (pc' := 100) (L' := [_, _, _, _, _, _, _, _, _]) (st' := [_, _, _, _, _, _]) 4 rfl ?_
        try simp (disch := omega) only [kz, kzl0, kzl1, kzb, kzs, zI_add, zI_sub, zI_neg, zI_mul, zL_i, zI_l, zL_add, zL_sub, zL_neg]
        refine jcv (pc' := 103) 215 [_] [_, _, _, _] K.ob rfl rfl rfl rfl rfl rfl rfl rfl ?_
        refine m_behind (k := u - 1) K (by omega) (by omega) (jk ?_)
        refine jcs (pc' := 106) 216 [_, _, _, _, _] [] rfl rfl rfl rfl rfl rfl rfl rfl ?_
        refine m_goesUp rfl rfl hm hd1 (jk ?_)
        generalize hg : gUp m (R 9).2.2.1 od (W / 10 ^ (u - 1) % 10) (false || decide (¬ W % 10 ^ (u - 1) = 0)) = g
        rw [hod] at hg
        rw [hg] at hy
        cases g
        · skip
          refine jit (pc' := 113) rfl rfl rfl (by rfl) ?_
          refine jx (pc' := 116) (L' := [_, _, _, _, _, _, _, _, _]) (st' := []) 2 rfl ?_
          try simp (disch := omega) only [kz, kzl0, kzl1, kzb, kzs, zI_add, zI_sub, zI_neg, zI_mul, zL_i, zI_l, zL_add, zL_sub, zL_neg]
          exact t false hy (fun z => nomatch z)
        · skip
          refine jin (pc' := 109) 113 rfl rfl rfl rfl (by rfl) ?_
          refine jx (pc' := 116) (L' := [_, _, _, _, _, _, _, _, _]) (st' := []) 3 rfl ?_
          try simp (disch := omega) only [kz, kzl0, kzl1, kzb, kzs, zI_add, zI_sub, zI_neg, zI_mul, zL_i, zI_l, zL_add, zL_sub, zL_neg]
          exact t true hy (fun _ => h0)
      refine jx (pc' := 58) (L' := [_, _, _, _, _, _, _, _, _]) (st' := [_]) 2 rfl ?_
      refine jin (pc' := 61) 113 rfl rfl rfl rfl (by rfl) ?_
      refine jx (pc' := 63) (L' := [_, _, _, _, _, _, _, _, _]) (st' := [_, _]) 2 rfl ?_
      refine jgf (pc' := 66) K.ob rfl rfl rfl rfl rfl ?_
      refine jx (pc' := 67) (L' := [_, _, _, _, _, _, _, _, _]) (st' := [_, _, _]) 1 rfl ?_
      refine jR_m (pc' := 68) 9 K rfl rfl (by omega) (by omega)  rfl ?_
      refine jx (pc' := 69) (L' := [_, _, _, _, _, _, _, _, _]) (st' := [_, _, _]) 1 rfl ?_
      refine jgf (pc' := 72) K.ob rfl rfl rfl rfl rfl ?_
      refine jx (pc' := 74) (L' := [_, _, _, _, _, _, _, _, _]) (st' := [_, _, _, _]) 1 rfl ?_
      rw [va_up_ne _ _ (by decide)]
      refine jR_r (pc' := 75) u K rfl rfl (by omega) (by omega)  rfl ?_
      refine jx (pc' := 76) (L' := [_, _, _, _, _, _, _, _, _]) (st' := [.int (zI 2), _, _, _]) 1 rfl ?_
      refine jirem (pc' := 77) rfl rfl (by decide) rfl ?_
      rw [zrem ⟨by omega, by omega⟩ ⟨by omega, by omega⟩]
      refine jx (pc' := 78) (L' := [_, _, _, _, _, _, _, _, _]) (st' := [.int (zI 1), _, _, _]) 1 rfl ?_
      by_cases h1 : W / 10 ^ u % 10 % 2 = 1
      · skip
        refine jcn (pc' := 81) 85 rfl rfl rfl rfl (by rw [zc_ne ⟨by omega, by omega⟩ ⟨by omega, by omega⟩]; exact decide_eq_false (by omega)) ?_
        refine jx (pc' := 86) (L' := [_, _, _, _, _, _, _, _, _]) (st' := [.int (zI 1), _, _]) 2 rfl ?_
        exact fin true (decide_eq_true h1).symm
      · skip
        refine jct (pc' := 85) rfl rfl rfl (by rw [zc_ne ⟨by omega, by omega⟩ ⟨by omega, by omega⟩]; exact decide_eq_true (by omega)) ?_
        refine jx (pc' := 86) (L' := [_, _, _, _, _, _, _, _, _]) (st' := [.int (zI 0), _, _]) 1 rfl ?_
        exact fin false (decide_eq_false h1).symm
  refine jx (pc' := 1) (L' := [_, _, _, _, _, _, _, _, _]) (st' := [_]) 1 rfl ?_
  refine jcv (pc' := 4) 204 [] [] K.ob rfl rfl rfl rfl rfl rfl rfl rfl ?_
  refine m_empty K fun h K => jk ?_
  refine jx (pc' := 7) (L' := [_, _, _, _, _, _, _, _, _]) (st' := [_, _, _]) 3 rfl ?_
  refine jgf (pc' := 10) K.ob rfl rfl rfl rfl rfl ?_
  refine jx (pc' := 11) (L' := [_, _, _, _, _, _, _, _, _]) (st' := [_, _, _, _]) 1 rfl ?_
  refine jR_p (pc' := 12) 9 K rfl rfl (by omega) (by omega)  rfl ?_
  refine jcv (pc' := 15) 205 [_, _] [] K.ob rfl rfl rfl rfl rfl rfl rfl rfl ?_
  refine m_lay (r := 9) K rfl (by decide) _ hu1 (by omega) fun h K => jk ?_
  rw [hWd] at K
  refine jx (pc' := 17) (L' := [_, _, _, _, _, _, _, _, _]) (st' := [_, _]) 2 rfl ?_
  refine jgf (pc' := 20) K.ob rfl rfl rfl rfl rfl ?_
  refine jx (pc' := 21) (L' := [_, _, _, _, _, _, _, _, _]) (st' := [_, _, _]) 1 rfl ?_
  refine jR_f (pc' := 22) 9 K rfl rfl (by omega) (by omega)  rfl ?_
  refine jx (pc' := 24) (L' := [_, _, _, _, _, _, _, _, _]) (st' := [_, .int (zI 0), _, _]) 2 rfl ?_
  refine jgf (pc' := 27) K.ob rfl rfl rfl rfl rfl ?_
  refine jx (pc' := 28) (L' := [_, _, _, _, _, _, _, _, _]) (st' := [_, _, .int (zI 0), _, _]) 1 rfl ?_
  refine jR_m (pc' := 29) 9 K rfl rfl (by omega) (by omega)  rfl ?_
  refine jx (pc' := 30) (L' := [_, _, _, _, _, _, _, _, _]) (st' := [_, _, .int (zI 0), _, _]) 1 rfl ?_
  refine jcv (pc' := 33) 202 [_, .int (zI 0), _, _] [] K.ob rfl rfl rfl rfl rfl rfl rfl rfl ?_
  refine m_become (s := 0) (b := (R 9).2.2.1) K rfl rfl fA (by decide) ⟨by omega, by omega⟩ fun h K => jk ?_
  refine jx (pc' := 43) (L' := [_, _, _, _, _, _, _, _, _]) (st' := [_, _]) 6 rfl ?_
  try simp (disch := omega) only [kz, kzl0, kzl1, kzb, kzs, zI_add, zI_sub, zI_neg, zI_mul, zL_i, zI_l, zL_add, zL_sub, zL_neg]
  refine jcv (pc' := 46) 215 [_] [] K.ob rfl rfl rfl rfl rfl rfl rfl rfl ?_
  refine m_behind (k := u) K (by omega) (by omega) (jk ?_)
  rw [Bool.false_or]
  by_cases h0 : W % 10 ^ u = 0
  · rw [decide_eq_false (fun z => z h0)]
    refine jin (pc' := 49) 53 rfl rfl rfl rfl (by rfl) ?_
    refine jx (pc' := 54) (L' := [_, _, _, _, _, _, _, _, _]) (st' := [.int (zI 1)]) 2 rfl ?_
    exact t54 h true (by rw [decide_eq_false (fun z => z h0)]; rfl) K
  · rw [decide_eq_true h0]
    refine jit (pc' := 53) rfl rfl rfl (by rfl) ?_
    refine jx (pc' := 54) (L' := [_, _, _, _, _, _, _, _, _]) (st' := [.int (zI 0)]) 1 rfl ?_
    exact t54 h false (by rw [decide_eq_true h0]; rfl) K
theorem m_invalidInstead {f0 : Int} (K : (RI S0 h R V cd dr ra si tr mo ng sp sz wr il rs pt rl wo tx ou)) (hf0 : f0 = (f : Int)) (hf : f < 3) (q : ∀ h', (RI S0 h' (va_up R 8 (f, 3, false, 0, 0)) V cd dr ra (1) tr mo ng sp sz wr il rs pt rl wo tx ou) → Q (.inl none) h') : ix_M 232 [.ref 98, .int (zI f0)] h Q := by
  refine jx (pc' := 2) (L' := [_, _]) (st' := [.int (zI 0), _]) 2 rfl ?_
  refine jp_si (pc' := 5) 0 K (by first | rfl | (congr 1; omega)) rfl rfl rfl rfl fun h K => ?_
  refine jx (pc' := 7) (L' := [_, _]) (st' := [_, _]) 2 rfl ?_
  refine jcv (pc' := 10) 201 [_] [] K.ob rfl rfl rfl rfl rfl rfl rfl rfl ?_
  refine m_invalid K hf0 hf fun h K => jk ?_
  refine ix_qr _ rfl rfl rfl ?_
  exact q _ K
theorem m_quantize (K : (RI S0 h R V cd dr ra (0) tr mo ng sp sz wr il rs pt rl wo tx ou)) (vA : ValD (R 9)) (vB : ValD (R 10)) (hA : (R 9).2.1 < 2) (hB : (R 10).2.1 < 2) (hdr : dr < 5) (q : ∀ h', (RJ S0 h' (va_up R 8 (qzF dr (R 9) (R 10)).1) cd dr ra ((qzF dr (R 9) (R 10)).2) tr sz wr tx ou) → Q (.inl none) h') : ix_M 230 [.ref 98, .int (zI 9), .int (zI 10)] h Q := by
  have bA := Val.b vA
  have bB := Val.b vB
  have hsA := swp_b vA.2.1
  have hsB := swp_b vB.2.1
  have fA := vA.1
  have fb := f3b fA
  unfold qzF at q
  refine jx (pc' := 1) (L' := [_, _, _, _]) (st' := [_]) 1 rfl ?_
  refine jgf (pc' := 4) K.ob rfl rfl rfl rfl rfl ?_
  refine jx (pc' := 5) (L' := [_, _, _, _]) (st' := [_, _]) 1 rfl ?_
  refine jR_f (pc' := 6) 9 K rfl rfl (by omega) (by omega)  rfl ?_
  refine jx (pc' := 8) (L' := [_, _, _, _]) (st' := [_]) 2 rfl ?_
  refine jgf (pc' := 11) K.ob rfl rfl rfl rfl rfl ?_
  refine jx (pc' := 12) (L' := [_, _, _, _]) (st' := [_, _]) 1 rfl ?_
  refine jR_so (pc' := 13) 9 K rfl rfl (by omega) (by omega)  rfl ?_
  refine jx (pc' := 14) (L' := [_, _, _, _]) (st' := [_, _]) 1 rfl ?_
  refine jgf (pc' := 17) K.ob rfl rfl rfl rfl rfl ?_
  refine jx (pc' := 18) (L' := [_, _, _, _]) (st' := [_, _, _]) 1 rfl ?_
  refine jR_so (pc' := 19) 10 K rfl rfl (by omega) (by omega)  rfl ?_
  by_cases e : (R 9).2.1 = (R 10).2.1
  · have e1 := congrArg swp e
    rw [if_neg (fun z => z e)] at q
    refine jct (pc' := 28) rfl rfl rfl (by rw [zc_eq ⟨by omega, by omega⟩ ⟨by omega, by omega⟩]; exact decide_eq_true (by omega)) ?_
    refine jx (pc' := 29) (L' := [_, _, _, _]) (st' := [_]) 1 rfl ?_
    refine jgf (pc' := 32) K.ob rfl rfl rfl rfl rfl ?_
    refine jx (pc' := 33) (L' := [_, _, _, _]) (st' := [_, _]) 1 rfl ?_
    refine jR_so (pc' := 34) 9 K rfl rfl (by omega) (by omega)  rfl ?_
    refine jx (pc' := 35) (L' := [_, _, _, _]) (st' := [.int (zI 1), _]) 1 rfl ?_
    by_cases e2 : (R 9).2.1 = 1
    · have e3 := swp_1.mpr e2
      rw [if_pos e2] at q
      refine jcn (pc' := 38) 46 rfl rfl rfl rfl (by rw [zc_ne ⟨by omega, by omega⟩ ⟨by omega, by omega⟩]; exact decide_eq_false (by omega)) ?_
      refine jx (pc' := 42) (L' := [_, _, _, _]) (st' := [.int (zI 8), _, _]) 3 rfl ?_
      refine jcv (pc' := 45) 192 [_, .int (zI 8)] [] K.ob rfl rfl rfl rfl rfl rfl rfl rfl ?_
      refine m_copy (a := 9) (c := 8) K rfl rfl (by decide) (by decide) (by decide) fun h K => jk ?_
      refine ix_qr _ rfl rfl rfl ?_
      exact q _ K.rj
    · have e3 : ¬ swp (R 9).2.1 = 1 := fun z => e2 (swp_1.mp z)
      rw [if_neg e2] at q
      refine jct (pc' := 46) rfl rfl rfl (by rw [zc_ne ⟨by omega, by omega⟩ ⟨by omega, by omega⟩]; exact decide_eq_true (by omega)) ?_
      refine jx (pc' := 49) (L' := [_, _, _, _]) (st' := [_, _, _]) 3 rfl ?_
      refine jgf (pc' := 52) K.ob rfl rfl rfl rfl rfl ?_
      refine jx (pc' := 53) (L' := [_, _, _, _]) (st' := [_, _, _, _]) 1 rfl ?_
      refine jR_p (pc' := 54) 10 K rfl rfl (by omega) (by omega)  rfl ?_
      refine jx (pc' := 55) (L' := [_, _, _, _]) (st' := [_, _, _, _]) 1 rfl ?_
      refine jgf (pc' := 58) K.ob rfl rfl rfl rfl rfl ?_
      refine jcv (pc' := 61) 231 [_, _, _] [] K.ob rfl rfl rfl rfl rfl rfl rfl rfl ?_
      refine m_toPower (m := dr) K vA ⟨by omega, by omega⟩ rfl hdr fun h K => jk ?_
      obtain ⟨V, mo, ng, sp, il, rs, pt, rl, wo, K⟩ := K
      have rv8 := K.rv (r := 8) (by decide)
      refine jx (pc' := 64) (L' := [_, _, _, _]) (st' := [.int (zI 8), _]) 2 rfl ?_
      refine jcv (pc' := 67) 178 [.int (zI 8)] [] K.ob rfl rfl rfl rfl rfl rfl rfl rfl ?_
      refine m_many (r := 8) K rfl (by decide) fun hd => jk ?_
      simp only [va_up_self] at hd ⊢
      refine jx (pc' := 68) (L' := [_, _, _, _]) (st' := [_, _]) 1 rfl ?_
      refine jcs (pc' := 71) 176 [_] [_] rfl rfl rfl rfl rfl rfl rfl rfl ?_
      refine m_digitsOf rfl fA (jk ?_)
      by_cases e4 : fD (R 9).1 < dgs (tpC dr (R 9).2.2.1 (R 9).2.2.2.1 (R 10).2.2.2.1 (R 9).2.2.2.2)
      · rw [if_pos e4] at q
        refine jcn (pc' := 74) 79 rfl rfl rfl rfl (by rw [zc_le ⟨by omega, by omega⟩ ⟨by omega, by omega⟩]; exact decide_eq_false (by omega)) ?_
        refine jx (pc' := 76) (L' := [_, _, _, _]) (st' := [_, _]) 2 rfl ?_
        refine jcv (pc' := 79) 232 [_] [] K.ob rfl rfl rfl rfl rfl rfl rfl rfl ?_
        refine m_invalidInstead K rfl fA fun h K => jk ?_
        rw [va_up_up] at K
        refine ix_qr _ rfl rfl rfl ?_
        exact q _ K.rj
      · rw [if_neg e4] at q
        refine jct (pc' := 79) rfl rfl rfl (by rw [zc_le ⟨by omega, by omega⟩ ⟨by omega, by omega⟩]; exact decide_eq_true (by omega)) ?_
        refine ix_qr _ rfl rfl rfl ?_
        rw [Nat.zero_or] at K
        exact q _ K.rj
  · have e1 : ¬ swp (R 9).2.1 = swp (R 10).2.1 := fun z => e (swp_i.mp z)
    rw [if_pos e] at q
    refine jcn (pc' := 22) 28 rfl rfl rfl rfl (by rw [zc_eq ⟨by omega, by omega⟩ ⟨by omega, by omega⟩]; exact decide_eq_false (by omega)) ?_
    refine jx (pc' := 24) (L' := [_, _, _, _]) (st' := [_, _]) 2 rfl ?_
    refine jcv (pc' := 27) 201 [_] [] K.ob rfl rfl rfl rfl rfl rfl rfl rfl ?_
    refine m_invalid K rfl fA fun h K => jk ?_
    refine ix_qr _ rfl rfl rfl ?_
    exact q _ K.rj
theorem m_toWhole {m0 : Int} (K : (RI S0 h R V cd dr ra (0) tr mo ng sp sz wr il rs pt rl wo tx ou)) (vA : ValD (R 9)) (hA : (R 9).2.1 < 2) (hm0 : m0 = (m : Int)) (hm : m < 5) (q : ∀ h', (RJ S0 h' (va_up R 8 (mwF m (R 9)).1) cd dr ra (if (mwF m (R 9)).2 && t then 16 else 0) tr sz wr tx ou) → Q (.inl none) h') : ix_M 241 [.ref 98, .int (zI 9), .int (zI m0), .int (bI t)] h Q := by
  have bA := Val.b vA
  have hsA := swp_b vA.2.1
  have fA := vA.1
  unfold mwF at q
  refine jx (pc' := 4) (L' := [_, _, _, _]) (st' := [.int (zI 8), _, _]) 3 rfl ?_
  refine jcv (pc' := 7) 192 [_, .int (zI 8)] [] K.ob rfl rfl rfl rfl rfl rfl rfl rfl ?_
  refine m_copy (a := 9) (c := 8) K rfl rfl (by decide) (by decide) (by decide) fun h K => jk ?_
  refine jx (pc' := 8) (L' := [_, _, _, _]) (st' := [_]) 1 rfl ?_
  refine jgf (pc' := 11) K.ob rfl rfl rfl rfl rfl ?_
  refine jx (pc' := 12) (L' := [_, _, _, _]) (st' := [_, _]) 1 rfl ?_
  refine jR_so (pc' := 13) 9 K rfl rfl (by omega) (by omega)  rfl ?_
  rw [va_up_ne _ _ (by decide)]
  refine jx (pc' := 14) (L' := [_, _, _, _]) (st' := [.int (zI 1), _]) 1 rfl ?_
  have t26 : ((R 9).2.1 = 1 ∨ 0 ≤ (R 9).2.2.2.1) → ix_E 241 26 [some (.ref 98), some (.int (zI 9)), some (.int (zI m0)), some (.int (bI t))] [] h Q := by
    intro hi
    rw [if_pos hi] at q
    refine ix_qr _ rfl rfl rfl ?_
    exact q _ K.rj
  by_cases e : (R 9).2.1 = 1
  · have e3 := swp_1.mpr e
    refine jct (pc' := 26) rfl rfl rfl (by rw [zc_eq ⟨by omega, by omega⟩ ⟨by omega, by omega⟩]; exact decide_eq_true (by omega)) ?_
    exact t26 (Or.inl e)
  · have e3 : ¬ swp (R 9).2.1 = 1 := fun z => e (swp_1.mp z)
    refine jcn (pc' := 17) 26 rfl rfl rfl rfl (by rw [zc_eq ⟨by omega, by omega⟩ ⟨by omega, by omega⟩]; exact decide_eq_false (by omega)) ?_
    refine jx (pc' := 18) (L' := [_, _, _, _]) (st' := [_]) 1 rfl ?_
    refine jgf (pc' := 21) K.ob rfl rfl rfl rfl rfl ?_
    refine jx (pc' := 22) (L' := [_, _, _, _]) (st' := [_, _]) 1 rfl ?_
    refine jR_p (pc' := 23) 9 K rfl rfl (by omega) (by omega)  rfl ?_
    rw [va_up_ne _ _ (by decide)]
    by_cases e2 : 0 ≤ (R 9).2.2.2.1
    · skip
      refine jin (pc' := 26) 27 rfl rfl rfl rfl (by rw [zz_lt ⟨by omega, by omega⟩]; exact decide_eq_false (by omega)) ?_
      exact t26 (Or.inr e2)
    · rw [if_neg (fun z => z.elim e e2)] at q
      refine jit (pc' := 27) rfl rfl rfl (by rw [zz_lt ⟨by omega, by omega⟩]; exact decide_eq_true (by omega)) ?_
      refine jx (pc' := 31) (L' := [_, _, _, _]) (st' := [_, .int (zI 0), _, _]) 4 rfl ?_
      refine jcv (pc' := 34) 231 [_, .int (zI 0), _] [] K.ob rfl rfl rfl rfl rfl rfl rfl rfl ?_
      refine m_toPower K (by rw [va_up_ne _ _ (by decide)]; exact vA) ⟨by omega, by omega⟩ hm0 hm fun h K => jk ?_
      rw [va_up_up, va_up_ne _ _ (by decide)] at K
      obtain ⟨V, mo, ng, sp, il, rs, pt, rl, wo, K⟩ := K
      refine jx (pc' := 35) (L' := [_, _, _, _]) (st' := [_]) 1 rfl ?_
      cases t
      · rw [Bool.and_false, if_neg (by decide)] at q
        refine jin (pc' := 38) 43 rfl rfl rfl rfl (by rfl) ?_
        refine jx (pc' := 40) (L' := [_, _, _, _]) (st' := [.int (zI 0), _]) 2 rfl ?_
        refine jp_si (pc' := 43) 0 K (by first | rfl | (congr 1; omega)) rfl rfl rfl rfl fun h K => ?_
        refine ix_qr _ rfl rfl rfl ?_
        exact q _ K.rj
      · rw [Bool.and_true] at q
        refine jit (pc' := 43) rfl rfl rfl (by rfl) ?_
        refine ix_qr _ rfl rfl rfl ?_
        rw [Nat.zero_or] at K
        exact q _ K.rj
end REF
