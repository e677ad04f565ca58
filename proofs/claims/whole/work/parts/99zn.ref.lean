/-! ===== the reference: next ===== -/
theorem nin_9 {C D k : Nat} (h : C + 1 = 10 ^ D) (hk : k < D) : C / 10 ^ k % 10 = 9 := by
  have hp := pp0 k
  have hq := pp0 (D - k - 1)
  have e : 10 ^ D = 10 ^ (D - k - 1) * 10 * 10 ^ k := by rw [← Nat.pow_succ, ← Nat.pow_add]; congr 1; omega
  have e2 : C = (10 ^ (D - k - 1) * 10 - 1) * 10 ^ k + (10 ^ k - 1) := by
    rw [Nat.sub_mul, ← e, Nat.one_mul]
    have := pl (a := k) (b := D) (by omega)
    omega
  rw [e2, dgh _ (by omega) (Nat.le_refl k), Nat.sub_self, Nat.pow_zero, Nat.div_one]
  omega
theorem nin_m {D : Nat} (h : D ≤ 40) : (10 ^ 40 - 1) % 10 ^ D = 10 ^ D - 1 := by
  have e : (10 : Nat) ^ 40 = 10 ^ (40 - D) * 10 ^ D := by rw [← Nat.pow_add]; congr 1; omega
  have hp := pp0 D
  have hq := pp0 (40 - D)
  have e2 : 10 ^ 40 - 1 = (10 ^ D - 1) + (10 ^ (40 - D) - 1) * 10 ^ D := by
    rw [Nat.sub_mul, Nat.one_mul, ← e]
    have := pl h
    omega
  rw [e2, Nat.add_mul_mod_self_right, Nat.mod_eq_of_lt (by omega)]
theorem dec_s {C k : Nat} (hk : k ≤ 40) (h0 : C % 10 ^ k = 0) (hd : ¬ C / 10 ^ k % 10 = 0) : sd (C / 10 ^ k * 10 ^ k + (10 ^ 40 - 1) % 10 ^ k) k (C / 10 ^ k % 10 - 1) = C - 1 := by
  have hp := pp0 k
  have a := d3 C k
  have hm : 10 ^ k - 1 < 10 ^ k := by omega
  rw [nin_m hk]
  unfold sd
  rw [dgh _ hm (by omega), show k + 1 - k = 1 by omega, Nat.pow_one, Nat.add_comm (C / 10 ^ k * 10 ^ k), Nat.add_mul_mod_self_right, Nat.mod_eq_of_lt hm, Nat.div_div_eq_div_mul, ← Nat.pow_succ]
  have h2 : (C / 10 ^ k % 10 - 1) * 10 ^ k + 10 ^ k = C / 10 ^ k % 10 * 10 ^ k := by
    rw [Nat.sub_mul, Nat.one_mul]
    have : 1 * 10 ^ k ≤ C / 10 ^ k % 10 * 10 ^ k := Nat.mul_le_mul_right _ (by omega)
    omega
  simp only [Nat.succ_eq_add_one]
  omega
section REF
variable {h : ix_H} {Q : ix_O → ix_H → Prop} {S0 : Nat → AC} {R : Nat → Dm} {V cd dr ra si tr : Nat} {mo ng : Bool} {sp sz wr : Nat} {il : Bool} {rs pt rl wo tx ou : Nat → Nat} {j x : Int} {r f s m a : Nat} {b t : Bool}
theorem m_stepOut {f0 : Int} {d : Dm} (K : (RI S0 h (va_up R 8 d) V cd dr ra si tr mo ng sp sz wr il rs pt rl wo tx ou)) (hf0 : f0 = (d.1 : Int)) (hf : d.1 < 3) (hc : d.2.2.2.2 < 10 ^ fD d.1) (he : -12500 ≤ d.2.2.2.1 ∧ d.2.2.2.1 ≤ 12500) (q : ∀ h', (RI S0 h' (va_up R 8 (sOF d)) V cd dr ra si tr mo ng sp sz wr il rs pt rl wo tx ou) → Q (.inl none) h') : ix_M 243 [.ref 98, .int (zI f0)] h Q := by
  have fb := f3b hf
  have gb := gEb hf
  unfold sOF at q
  generalize hC : d.2.2.2.2 = C at *
  have loop : ∀ n k : Nat, k + n = fD d.1 → C % 10 ^ k + 1 = 10 ^ k → ∀ h1, (RI S0 h1 (va_up R 8 (sC d (C / 10 ^ k * 10 ^ k))) V cd dr ra si tr mo ng sp sz wr il rs pt rl wo tx ou) → ix_E 243 2 [some (.ref 98), some (.int (zI f0)), some (.int (zI (k : Int)))] [] h1 Q := by
    intro n
    induction n with
    | zero =>
      intro k hk h9 h K
      obtain rfl : k = fD d.1 := by omega
      rw [Nat.mod_eq_of_lt hc] at h9
      rw [if_pos h9] at q
      rw [Nat.div_eq_of_lt hc, Nat.zero_mul] at K
      have e1 : sd 0 (fD d.1 - 1) 1 = 10 ^ (fD d.1 - 1) := by
        unfold sd
        rw [Nat.zero_div, Nat.zero_mod, Nat.zero_mul, Nat.zero_add, Nat.one_mul, Nat.add_zero]
      refine jx (pc' := 4) (L' := [_, _, _]) (st' := [_, _]) 2 rfl ?_
      refine jcs (pc' := 7) 176 [_] [_] rfl rfl rfl rfl rfl rfl rfl rfl ?_
      refine m_digitsOf hf0 hf (jk ?_)
      refine jct (pc' := 42) rfl rfl rfl (by rw [zc_ge ⟨by omega, by omega⟩ ⟨by omega, by omega⟩]; exact decide_eq_true (by omega)) ?_
      refine jx (pc' := 44) (L' := [_, _, _]) (st' := [_, _]) 2 rfl ?_
      refine jcs (pc' := 47) 176 [_] [_] rfl rfl rfl rfl rfl rfl rfl rfl ?_
      refine m_digitsOf hf0 hf (jk ?_)
      refine jct (pc' := 65) rfl rfl rfl (by rw [zc_ge ⟨by omega, by omega⟩ ⟨by omega, by omega⟩]; exact decide_eq_true (by omega)) ?_
      refine jx (pc' := 66) (L' := [_, _, _]) (st' := [_]) 1 rfl ?_
      refine jgf (pc' := 69) K.ob rfl rfl rfl rfl rfl ?_
      refine jx (pc' := 77) (L' := [_, _, _]) (st' := [.int (zI 1), _, _]) 6 rfl ?_
      try simp (disch := omega) only [kz, kzl0, kzl1, kzb, kzs, zI_add, zI_sub, zI_neg, zI_mul, zL_i, zI_l, zL_add, zL_sub, zL_neg]
      refine jW_d (pc' := 78) 8 ((fD d.1 - 1)) 1 K (by first | rfl | (congr 1; omega)) rfl rfl (by omega) (by omega) (by omega)  rfl (by omega) fun h K => ?_
      rw [va_up_self, va_up_up, e1] at K
      refine jx (pc' := 79) (L' := [_, _, _]) (st' := [_]) 1 rfl ?_
      refine jgf (pc' := 82) K.ob rfl rfl rfl rfl rfl ?_
      refine jx (pc' := 85) (L' := [_, _, _]) (st' := [.int (zI 8), _, .int (zI 8), _]) 2 rfl ?_
      refine jR_p (pc' := 86) 8 K rfl rfl (by omega) (by omega)  rfl ?_
      simp only [va_up_self]
      refine jx (pc' := 88) (L' := [_, _, _]) (st' := [_, .int (zI 8), _]) 2 rfl ?_
      try simp (disch := omega) only [kz, kzl0, kzl1, kzb, kzs, zI_add, zI_sub, zI_neg, zI_mul, zL_i, zI_l, zL_add, zL_sub, zL_neg]
      refine jW_p (pc' := 89) 8 ((d.2.2.2.1 + 1)) K (by first | rfl | (congr 1; omega)) rfl rfl (by omega) (by omega)  rfl ⟨by omega, by omega⟩ fun h K => ?_
      rw [va_up_self, va_up_up] at K
      refine jx (pc' := 90) (L' := [_, _, _]) (st' := [_]) 1 rfl ?_
      refine jgf (pc' := 93) K.ob rfl rfl rfl rfl rfl ?_
      refine jx (pc' := 95) (L' := [_, _, _]) (st' := [.int (zI 8), _]) 1 rfl ?_
      refine jR_p (pc' := 96) 8 K rfl rfl (by omega) (by omega)  rfl ?_
      simp only [va_up_self]
      refine jx (pc' := 97) (L' := [_, _, _]) (st' := [_, _]) 1 rfl ?_
      refine jcs (pc' := 100) 209 [_] [_] rfl rfl rfl rfl rfl rfl rfl rfl ?_
      refine m_greatestPower hf0 hf (jk ?_)
      by_cases h0 : gE d.1 < d.2.2.2.1 + 1
      · rw [if_pos h0] at q
        refine jcn (pc' := 103) 115 rfl rfl rfl rfl (by rw [zc_le ⟨by omega, by omega⟩ ⟨by omega, by omega⟩]; exact decide_eq_false (by omega)) ?_
        refine jx (pc' := 106) (L' := [_, _, _]) (st' := [_, _, _]) 3 rfl ?_
        refine jgf (pc' := 109) K.ob rfl rfl rfl rfl rfl ?_
        refine jx (pc' := 111) (L' := [_, _, _]) (st' := [.int (zI 8), _, _, _]) 1 rfl ?_
        refine jR_m (pc' := 112) 8 K rfl rfl (by omega) (by omega)  rfl ?_
        simp only [va_up_self]
        refine jcv (pc' := 115) 203 [_, _] [] K.ob rfl rfl rfl rfl rfl rfl rfl rfl ?_
        refine m_infinite K hf0 hf fun h K => jk ?_
        rw [va_up_up] at K
        refine ix_qr _ rfl rfl rfl ?_
        exact q _ K
      · rw [if_neg h0] at q
        refine jct (pc' := 115) rfl rfl rfl (by rw [zc_le ⟨by omega, by omega⟩ ⟨by omega, by omega⟩]; exact decide_eq_true (by omega)) ?_
        refine ix_qr _ rfl rfl rfl ?_
        exact q _ K
    | succ n ih =>
      intro k hk h9 h K
      have hb10 := dg_b C k
      have ed : C / 10 ^ k * 10 ^ k / 10 ^ k % 10 = C / 10 ^ k % 10 := by rw [Nat.mul_div_cancel _ (pp0 k)]
      refine jx (pc' := 4) (L' := [_, _, _]) (st' := [_, _]) 2 rfl ?_
      refine jcs (pc' := 7) 176 [_] [_] rfl rfl rfl rfl rfl rfl rfl rfl ?_
      refine m_digitsOf hf0 hf (jk ?_)
      refine jcn (pc' := 10) 42 rfl rfl rfl rfl (by rw [zc_ge ⟨by omega, by omega⟩ ⟨by omega, by omega⟩]; exact decide_eq_false (by omega)) ?_
      refine jx (pc' := 11) (L' := [_, _, _]) (st' := [_]) 1 rfl ?_
      refine jgf (pc' := 14) K.ob rfl rfl rfl rfl rfl ?_
      refine jx (pc' := 19) (L' := [_, _, _]) (st' := [_, _]) 3 rfl ?_
      try simp (disch := omega) only [kz, kzl0, kzl1, kzb, kzs, zI_add, zI_sub, zI_neg, zI_mul, zL_i, zI_l, zL_add, zL_sub, zL_neg]
      refine jR_d (pc' := 20) 8 k K rfl rfl (by omega) (by omega) (by omega)  rfl ?_
      simp only [va_up_self]
      rw [ed]
      refine jx (pc' := 22) (L' := [_, _, _]) (st' := [.int (zI 9), _]) 1 rfl ?_
      by_cases h0 : C / 10 ^ k % 10 = 9
      · skip
        refine jcn (pc' := 25) 42 rfl rfl rfl rfl (by rw [zc_ne ⟨by omega, by omega⟩ ⟨by omega, by omega⟩]; exact decide_eq_false (by omega)) ?_
        refine jx (pc' := 26) (L' := [_, _, _]) (st' := [_]) 1 rfl ?_
        refine jgf (pc' := 29) K.ob rfl rfl rfl rfl rfl ?_
        refine jx (pc' := 35) (L' := [_, _, _]) (st' := [.int (zI 0), _, _]) 4 rfl ?_
        try simp (disch := omega) only [kz, kzl0, kzl1, kzb, kzs, zI_add, zI_sub, zI_neg, zI_mul, zL_i, zI_l, zL_add, zL_sub, zL_neg]
        refine jW_d (pc' := 36) 8 k 0 K (by first | rfl | (congr 1; omega)) rfl rfl (by omega) (by omega) (by omega)  rfl (by omega) fun h K => ?_
        rw [va_up_self, va_up_up, sd_cl] at K
        refine jx (pc' := 2) (L' := [_, _, _]) (st' := []) 2 rfl ?_
        try simp (disch := omega) only [kz, kzl0, kzl1, kzb, kzs, zI_add, zI_sub, zI_neg, zI_mul, zL_i, zI_l, zL_add, zL_sub, zL_neg]
        rw [show (k : Int) + 1 = ((k + 1 : Nat) : Int) by omega]
        exact ih (k + 1) (by omega) (inc_9 h9 h0) _ K
      · rw [if_neg (fun z => h0 (nin_9 z (by omega)))] at q
        refine jct (pc' := 42) rfl rfl rfl (by rw [zc_ne ⟨by omega, by omega⟩ ⟨by omega, by omega⟩]; exact decide_eq_true (by omega)) ?_
        refine jx (pc' := 44) (L' := [_, _, _]) (st' := [_, _]) 2 rfl ?_
        refine jcs (pc' := 47) 176 [_] [_] rfl rfl rfl rfl rfl rfl rfl rfl ?_
        refine m_digitsOf hf0 hf (jk ?_)
        refine jcn (pc' := 50) 65 rfl rfl rfl rfl (by rw [zc_ge ⟨by omega, by omega⟩ ⟨by omega, by omega⟩]; exact decide_eq_false (by omega)) ?_
        refine jx (pc' := 51) (L' := [_, _, _]) (st' := [_]) 1 rfl ?_
        refine jgf (pc' := 54) K.ob rfl rfl rfl rfl rfl ?_
        refine jx (pc' := 60) (L' := [_, _, _]) (st' := [_, _, _, _]) 4 rfl ?_
        try simp (disch := omega) only [kz, kzl0, kzl1, kzb, kzs, zI_add, zI_sub, zI_neg, zI_mul, zL_i, zI_l, zL_add, zL_sub, zL_neg]
        refine jR_d (pc' := 61) 8 k K rfl rfl (by omega) (by omega) (by omega)  rfl ?_
        simp only [va_up_self]
        rw [ed]
        refine jx (pc' := 63) (L' := [_, _, _]) (st' := [_, _, _]) 2 rfl ?_
        try simp (disch := omega) only [kz, kzl0, kzl1, kzb, kzs, zI_add, zI_sub, zI_neg, zI_mul, zL_i, zI_l, zL_add, zL_sub, zL_neg]
        refine jW_d (pc' := 64) 8 k ((C/10^k%10+1)) K (by first | rfl | (congr 1; omega)) rfl rfl (by omega) (by omega) (by omega)  rfl (by omega) fun h K => ?_
        rw [va_up_self, va_up_up, inc_s h9 h0] at K
        refine ix_qr _ rfl rfl rfl ?_
        exact q _ K
  refine jx (pc' := 2) (L' := [_, _, _]) (st' := []) 2 rfl ?_
  try simp (disch := omega) only [kz, kzl0, kzl1, kzb, kzs, zI_add, zI_sub, zI_neg, zI_mul, zL_i, zI_l, zL_add, zL_sub, zL_neg]
  refine loop _ 0 (Nat.zero_add _) (by rw [Nat.pow_zero, Nat.mod_one]) h ?_
  rw [Nat.pow_zero, Nat.div_one, Nat.mul_one, ← hC]
  exact K
theorem m_stepIn {f0 : Int} {d : Dm} (K : (RI S0 h (va_up R 8 d) V cd dr ra si tr mo ng sp sz wr il rs pt rl wo tx ou)) (hf0 : f0 = (d.1 : Int)) (hf : d.1 < 3) (hc : d.2.2.2.2 < 10 ^ fD d.1) (hp : 0 < d.2.2.2.2) (he : -12500 ≤ d.2.2.2.1 ∧ d.2.2.2.1 ≤ 12500) (q : ∀ h', (RI S0 h' (va_up R 8 (sIF d)) V cd dr ra si tr mo ng sp sz wr il rs pt rl wo tx ou) → Q (.inl none) h') : ix_M 244 [.ref 98, .int (zI f0)] h Q := by
  have fb := f3b hf
  have gb := gEb hf
  unfold sIF at q
  generalize hC : d.2.2.2.2 = C at *
  have hC40 : C < 10 ^ 40 := Nat.lt_of_lt_of_le hc (pl (by omega))
  have K0 : (RI S0 h (va_up R 8 (sC d C)) V cd dr ra si tr mo ng sp sz wr il rs pt rl wo tx ou) := by rw [← hC]; exact K
  have borrow : ¬ (C = 10 ^ (fD d.1 - 1) ∧ -(fB d.1 : Int) < d.2.2.2.1) → ∀ n k : Nat, k + n = fD d.1 → C % 10 ^ k = 0 → ∀ (h1 : ix_H) (l3 : Int32), (RI S0 h1 (va_up R 8 (sC d (C / 10 ^ k * 10 ^ k + (10 ^ 40 - 1) % 10 ^ k))) V cd dr ra si tr mo ng sp sz wr il rs pt rl wo tx ou) → ix_E 244 130 [some (.ref 98), some (.int (zI f0)), some (.int (zI (fD d.1))), some (.int l3), some (.int (zI (k : Int)))] [] h1 Q := by
    intro hn
    rw [if_neg hn] at q
    intro n
    induction n with
    | zero =>
      intro k hk h9 h l3 K
      obtain rfl : k = fD d.1 := by omega
      rw [Nat.mod_eq_of_lt hc] at h9
      omega
    | succ n ih =>
      intro k hk h9 h l3 K
      have hb10 := dg_b C k
      have hml := Nat.mod_lt (10 ^ 40 - 1) (pp0 k)
      have ed : (C / 10 ^ k * 10 ^ k + (10 ^ 40 - 1) % 10 ^ k) / 10 ^ k % 10 = C / 10 ^ k % 10 := by
        rw [dgh _ hml (Nat.le_refl k), Nat.sub_self, Nat.pow_zero, Nat.div_one]
      refine jx (pc' := 131) (L' := [_, _, _, _, _]) (st' := [_]) 1 rfl ?_
      refine jgf (pc' := 134) K.ob rfl rfl rfl rfl rfl ?_
      refine jx (pc' := 140) (L' := [_, _, _, _, _]) (st' := [_, _]) 3 rfl ?_
      try simp (disch := omega) only [kz, kzl0, kzl1, kzb, kzs, zI_add, zI_sub, zI_neg, zI_mul, zL_i, zI_l, zL_add, zL_sub, zL_neg]
      refine jR_d (pc' := 141) 8 k K rfl rfl (by omega) (by omega) (by omega)  rfl ?_
      simp only [va_up_self]
      rw [ed]
      by_cases h0 : C / 10 ^ k % 10 = 0
      · skip
        refine jin (pc' := 144) 163 rfl rfl rfl rfl (by rw [zz_ne ⟨by omega, by omega⟩]; exact decide_eq_false (by omega)) ?_
        refine jx (pc' := 145) (L' := [_, _, _, _, _]) (st' := [_]) 1 rfl ?_
        refine jgf (pc' := 148) K.ob rfl rfl rfl rfl rfl ?_
        refine jx (pc' := 156) (L' := [_, _, _, _, _]) (st' := [.int (zI 9), _, _]) 4 rfl ?_
        try simp (disch := omega) only [kz, kzl0, kzl1, kzb, kzs, zI_add, zI_sub, zI_neg, zI_mul, zL_i, zI_l, zL_add, zL_sub, zL_neg]
        refine jW_d (pc' := 157) 8 k 9 K (by first | rfl | (congr 1; omega)) rfl rfl (by omega) (by omega) (by omega)  rfl (by omega) fun h K => ?_
        have e := sd_cp C (10 ^ 40 - 1) k
        rw [nin_d k (by omega)] at e
        rw [va_up_self, va_up_up, e] at K
        refine jx (pc' := 130) (L' := [_, _, _, _, _]) (st' := []) 2 rfl ?_
        try simp (disch := omega) only [kz, kzl0, kzl1, kzb, kzs, zI_add, zI_sub, zI_neg, zI_mul, zL_i, zI_l, zL_add, zL_sub, zL_neg]
        rw [show (k : Int) + 1 = ((k + 1 : Nat) : Int) by omega]
        exact ih (k + 1) (by omega) (by rw [mod_s, h0, h9, Nat.zero_mul]) _ l3 K
      · skip
        refine jit (pc' := 163) rfl rfl rfl (by rw [zz_ne ⟨by omega, by omega⟩]; exact decide_eq_true (by omega)) ?_
        refine jx (pc' := 164) (L' := [_, _, _, _, _]) (st' := [_]) 1 rfl ?_
        refine jgf (pc' := 167) K.ob rfl rfl rfl rfl rfl ?_
        refine jx (pc' := 174) (L' := [_, _, _, _, _]) (st' := [_, _, _, _]) 4 rfl ?_
        try simp (disch := omega) only [kz, kzl0, kzl1, kzb, kzs, zI_add, zI_sub, zI_neg, zI_mul, zL_i, zI_l, zL_add, zL_sub, zL_neg]
        refine jR_d (pc' := 175) 8 k K rfl rfl (by omega) (by omega) (by omega)  rfl ?_
        simp only [va_up_self]
        rw [ed]
        refine jx (pc' := 177) (L' := [_, _, _, _, _]) (st' := [_, _, _]) 2 rfl ?_
        try simp (disch := omega) only [kz, kzl0, kzl1, kzb, kzs, zI_add, zI_sub, zI_neg, zI_mul, zL_i, zI_l, zL_add, zL_sub, zL_neg]
        refine jW_d (pc' := 178) 8 k ((C/10^k%10-1)) K (by first | rfl | (congr 1; omega)) rfl rfl (by omega) (by omega) (by omega)  rfl (by omega) fun h K => ?_
        rw [va_up_self, va_up_up, dec_s (by omega) h9 h0] at K
        refine ix_qr _ rfl rfl rfl ?_
        exact q _ K
  have nines : C = 10 ^ (fD d.1 - 1) ∧ -(fB d.1 : Int) < d.2.2.2.1 → ∀ n k : Nat, k + n = fD d.1 → ∀ (h1 : ix_H) (l3 : Int32), (RI S0 h1 (va_up R 8 (sC d (C / 10 ^ k * 10 ^ k + (10 ^ 40 - 1) % 10 ^ k))) V cd dr ra si tr mo ng sp sz wr il rs pt rl wo tx ou) → ix_E 244 90 [some (.ref 98), some (.int (zI f0)), some (.int (zI (fD d.1))), some (.int l3), some (.int (zI (k : Int)))] [] h1 Q := by
    intro hn
    rw [if_pos hn] at q
    intro n
    induction n with
    | zero =>
      intro k hk h l3 K
      obtain rfl : k = fD d.1 := by omega
      rw [Nat.div_eq_of_lt hc, Nat.zero_mul, Nat.zero_add, nin_m (by omega)] at K
      refine jx (pc' := 93) (L' := [_, _, _, _, _]) (st' := [_, _]) 2 rfl ?_
      refine jct (pc' := 115) rfl rfl rfl (by rw [zc_ge ⟨by omega, by omega⟩ ⟨by omega, by omega⟩]; exact decide_eq_true (by omega)) ?_
      refine jx (pc' := 116) (L' := [_, _, _, _, _]) (st' := [_]) 1 rfl ?_
      refine jgf (pc' := 119) K.ob rfl rfl rfl rfl rfl ?_
      refine jx (pc' := 122) (L' := [_, _, _, _, _]) (st' := [.int (zI 8), _, .int (zI 8), _]) 2 rfl ?_
      refine jR_p (pc' := 123) 8 K rfl rfl (by omega) (by omega)  rfl ?_
      simp only [va_up_self]
      refine jx (pc' := 125) (L' := [_, _, _, _, _]) (st' := [_, .int (zI 8), _]) 2 rfl ?_
      try simp (disch := omega) only [kz, kzl0, kzl1, kzb, kzs, zI_add, zI_sub, zI_neg, zI_mul, zL_i, zI_l, zL_add, zL_sub, zL_neg]
      refine jW_p (pc' := 126) 8 ((d.2.2.2.1 - 1)) K (by first | rfl | (congr 1; omega)) rfl rfl (by omega) (by omega)  rfl ⟨by omega, by omega⟩ fun h K => ?_
      rw [va_up_self, va_up_up] at K
      refine ix_qr _ rfl rfl rfl ?_
      exact q _ K
    | succ n ih =>
      intro k hk h l3 K
      refine jx (pc' := 93) (L' := [_, _, _, _, _]) (st' := [_, _]) 2 rfl ?_
      refine jcn (pc' := 96) 115 rfl rfl rfl rfl (by rw [zc_ge ⟨by omega, by omega⟩ ⟨by omega, by omega⟩]; exact decide_eq_false (by omega)) ?_
      refine jx (pc' := 97) (L' := [_, _, _, _, _]) (st' := [_]) 1 rfl ?_
      refine jgf (pc' := 100) K.ob rfl rfl rfl rfl rfl ?_
      refine jx (pc' := 108) (L' := [_, _, _, _, _]) (st' := [.int (zI 9), _, _]) 4 rfl ?_
      try simp (disch := omega) only [kz, kzl0, kzl1, kzb, kzs, zI_add, zI_sub, zI_neg, zI_mul, zL_i, zI_l, zL_add, zL_sub, zL_neg]
      refine jW_d (pc' := 109) 8 k 9 K (by first | rfl | (congr 1; omega)) rfl rfl (by omega) (by omega) (by omega)  rfl (by omega) fun h K => ?_
      have e := sd_cp C (10 ^ 40 - 1) k
      rw [nin_d k (by omega)] at e
      rw [va_up_self, va_up_up, e] at K
      refine jx (pc' := 90) (L' := [_, _, _, _, _]) (st' := []) 2 rfl ?_
      try simp (disch := omega) only [kz, kzl0, kzl1, kzb, kzs, zI_add, zI_sub, zI_neg, zI_mul, zL_i, zI_l, zL_add, zL_sub, zL_neg]
      rw [show (k : Int) + 1 = ((k + 1 : Nat) : Int) by omega]
      exact ih (k + 1) (by omega) _ l3 K
  have z0 : (RI S0 h (va_up R 8 (sC d (C / 10 ^ 0 * 10 ^ 0 + (10 ^ 40 - 1) % 10 ^ 0))) V cd dr ra si tr mo ng sp sz wr il rs pt rl wo tx ou) := by
    rw [Nat.pow_zero, Nat.div_one, Nat.mul_one, Nat.mod_one, Nat.add_zero]
    exact K0
  have t68 : ∀ (rd : Bool) (l4 : Int), rd = decide (C = 10 ^ (fD d.1 - 1)) → ix_E 244 68 [some (.ref 98), some (.int (zI f0)), some (.int (zI (fD d.1))), some (.int (bI rd)), some (.int (zI l4))] [] h Q := by
    intro rd l4 hrd
    cases rd
    · have hn := of_decide_eq_false hrd.symm
      refine jx (pc' := 69) (L' := [_, _, _, _, _]) (st' := [_]) 1 rfl ?_
      refine jit (pc' := 127) rfl rfl rfl (by rfl) ?_
      refine jx (pc' := 130) (L' := [_, _, _, _, _]) (st' := []) 2 rfl ?_
      try simp (disch := omega) only [kz, kzl0, kzl1, kzb, kzs, zI_add, zI_sub, zI_neg, zI_mul, zL_i, zI_l, zL_add, zL_sub, zL_neg]
      exact borrow (fun z => hn z.1) (fD d.1) 0 (by omega) (by rw [Nat.pow_zero, Nat.mod_one]) h _ z0
    · have hn := of_decide_eq_true hrd.symm
      refine jx (pc' := 69) (L' := [_, _, _, _, _]) (st' := [_]) 1 rfl ?_
      refine jin (pc' := 72) 127 rfl rfl rfl rfl (by rfl) ?_
      refine jx (pc' := 73) (L' := [_, _, _, _, _]) (st' := [_]) 1 rfl ?_
      refine jgf (pc' := 76) K.ob rfl rfl rfl rfl rfl ?_
      refine jx (pc' := 78) (L' := [_, _, _, _, _]) (st' := [.int (zI 8), _]) 1 rfl ?_
      refine jR_p (pc' := 79) 8 K rfl rfl (by omega) (by omega)  rfl ?_
      simp only [va_up_self]
      refine jx (pc' := 80) (L' := [_, _, _, _, _]) (st' := [_, _]) 1 rfl ?_
      refine jcs (pc' := 83) 179 [_] [_] rfl rfl rfl rfl rfl rfl rfl rfl ?_
      refine m_biasOf hf0 hf (jk ?_)
      refine jx (pc' := 84) (L' := [_, _, _, _, _]) (st' := [_, _]) 1 rfl ?_
      try simp (disch := omega) only [kz, kzl0, kzl1, kzb, kzs, zI_add, zI_sub, zI_neg, zI_mul, zL_i, zI_l, zL_add, zL_sub, zL_neg]
      by_cases h0 : -(fB d.1 : Int) < d.2.2.2.1
      · skip
        refine jcn (pc' := 87) 127 rfl rfl rfl rfl (by rw [zc_le ⟨by omega, by omega⟩ ⟨by omega, by omega⟩]; exact decide_eq_false (by omega)) ?_
        refine jx (pc' := 90) (L' := [_, _, _, _, _]) (st' := []) 2 rfl ?_
        try simp (disch := omega) only [kz, kzl0, kzl1, kzb, kzs, zI_add, zI_sub, zI_neg, zI_mul, zL_i, zI_l, zL_add, zL_sub, zL_neg]
        exact nines ⟨hn, h0⟩ (fD d.1) 0 (by omega) h _ z0
      · skip
        refine jct (pc' := 127) rfl rfl rfl (by rw [zc_le ⟨by omega, by omega⟩ ⟨by omega, by omega⟩]; exact decide_eq_true (by omega)) ?_
        refine jx (pc' := 130) (L' := [_, _, _, _, _]) (st' := []) 2 rfl ?_
        try simp (disch := omega) only [kz, kzl0, kzl1, kzb, kzs, zI_add, zI_sub, zI_neg, zI_mul, zL_i, zI_l, zL_add, zL_sub, zL_neg]
        exact borrow (fun z => h0 z.2) (fD d.1) 0 (by omega) (by rw [Nat.pow_zero, Nat.mod_one]) h _ z0
  have hrd : decide (C / 10 ^ (fD d.1 - 1) % 10 = 1 ∧ C % 10 ^ (fD d.1 - 1) = 0) = decide (C = 10 ^ (fD d.1 - 1)) := by
    refine decide_eq_decide.mpr ⟨fun z => ?_, fun z => ?_⟩
    · have a := d3 C (fD d.1 - 1)
      rw [z.1, z.2, show fD d.1 - 1 + 1 = fD d.1 by omega, Nat.div_eq_of_lt hc, Nat.zero_mul, Nat.zero_add, Nat.one_mul, Nat.add_zero] at a
      exact a
    · rw [z, Nat.div_self (pp0 _), Nat.mod_self]
      exact ⟨rfl, rfl⟩
  have look : ∀ n k : Nat, k + n = fD d.1 - 1 → ∀ rd : Bool, rd = decide (C / 10 ^ (fD d.1 - 1) % 10 = 1 ∧ C % 10 ^ k = 0) → ix_E 244 30 [some (.ref 98), some (.int (zI f0)), some (.int (zI (fD d.1))), some (.int (bI rd)), some (.int (zI (k : Int)))] [] h Q := by
    intro n
    induction n with
    | zero =>
      intro k hk rd hr
      obtain rfl : k = fD d.1 - 1 := by omega
      refine jx (pc' := 35) (L' := [_, _, _, _, _]) (st' := [_, _]) 4 rfl ?_
      try simp (disch := omega) only [kz, kzl0, kzl1, kzb, kzs, zI_add, zI_sub, zI_neg, zI_mul, zL_i, zI_l, zL_add, zL_sub, zL_neg]
      refine jct (pc' := 68) rfl rfl rfl (by rw [zc_ge ⟨by omega, by omega⟩ ⟨by omega, by omega⟩]; exact decide_eq_true (by omega)) ?_
      exact t68 rd _ (by rw [hr, hrd])
    | succ n ih =>
      intro k hk rd hr
      have hb10 := dg_b C k
      have t61 : ∀ rd' : Bool, rd' = decide (C / 10 ^ (fD d.1 - 1) % 10 = 1 ∧ C % 10 ^ (k + 1) = 0) → ix_E 244 61 [some (.ref 98), some (.int (zI f0)), some (.int (zI (fD d.1))), some (.int (bI rd)), some (.int (zI (k : Int)))] [.int (bI rd')] h Q := by
        intro rd' h'
        refine jx (pc' := 30) (L' := [_, _, _, _, _]) (st' := []) 3 rfl ?_
        try simp (disch := omega) only [kz, kzl0, kzl1, kzb, kzs, zI_add, zI_sub, zI_neg, zI_mul, zL_i, zI_l, zL_add, zL_sub, zL_neg]
        rw [show (k : Int) + 1 = ((k + 1 : Nat) : Int) by omega]
        exact ih (k + 1) (by omega) rd' h'
      cases rd
      · have hn := of_decide_eq_false hr.symm
        refine jx (pc' := 35) (L' := [_, _, _, _, _]) (st' := [_, _]) 4 rfl ?_
        try simp (disch := omega) only [kz, kzl0, kzl1, kzb, kzs, zI_add, zI_sub, zI_neg, zI_mul, zL_i, zI_l, zL_add, zL_sub, zL_neg]
        refine jcn (pc' := 38) 68 rfl rfl rfl rfl (by rw [zc_ge ⟨by omega, by omega⟩ ⟨by omega, by omega⟩]; exact decide_eq_false (by omega)) ?_
        refine jx (pc' := 39) (L' := [_, _, _, _, _]) (st' := [_]) 1 rfl ?_
        refine jit (pc' := 60) rfl rfl rfl (by rfl) ?_
        refine jx (pc' := 61) (L' := [_, _, _, _, _]) (st' := [.int (zI 0)]) 1 rfl ?_
        exact t61 false (decide_eq_false (fun z => hn ⟨z.1, by
          have := z.2
          refine Classical.byContradiction fun y => mod_up (show k ≤ k + 1 by omega) y this⟩)).symm
      · have hn := of_decide_eq_true hr.symm
        refine jx (pc' := 35) (L' := [_, _, _, _, _]) (st' := [_, _]) 4 rfl ?_
        try simp (disch := omega) only [kz, kzl0, kzl1, kzb, kzs, zI_add, zI_sub, zI_neg, zI_mul, zL_i, zI_l, zL_add, zL_sub, zL_neg]
        refine jcn (pc' := 38) 68 rfl rfl rfl rfl (by rw [zc_ge ⟨by omega, by omega⟩ ⟨by omega, by omega⟩]; exact decide_eq_false (by omega)) ?_
        refine jx (pc' := 39) (L' := [_, _, _, _, _]) (st' := [_]) 1 rfl ?_
        refine jin (pc' := 42) 60 rfl rfl rfl rfl (by rfl) ?_
        refine jx (pc' := 43) (L' := [_, _, _, _, _]) (st' := [_]) 1 rfl ?_
        refine jgf (pc' := 46) K.ob rfl rfl rfl rfl rfl ?_
        refine jx (pc' := 52) (L' := [_, _, _, _, _]) (st' := [_, _]) 3 rfl ?_
        try simp (disch := omega) only [kz, kzl0, kzl1, kzb, kzs, zI_add, zI_sub, zI_neg, zI_mul, zL_i, zI_l, zL_add, zL_sub, zL_neg]
        refine jR_d (pc' := 53) 8 k K rfl rfl (by omega) (by omega) (by omega)  rfl ?_
        simp only [va_up_self]
        rw [hC]
        by_cases h0 : C / 10 ^ k % 10 = 0
        · skip
          refine jin (pc' := 56) 60 rfl rfl rfl rfl (by rw [zz_ne ⟨by omega, by omega⟩]; exact decide_eq_false (by omega)) ?_
          refine jx (pc' := 61) (L' := [_, _, _, _, _]) (st' := [.int (zI 1)]) 2 rfl ?_
          exact t61 true (decide_eq_true ⟨hn.1, by rw [mod_s, h0, hn.2, Nat.zero_mul]⟩).symm
        · skip
          refine jit (pc' := 60) rfl rfl rfl (by rw [zz_ne ⟨by omega, by omega⟩]; exact decide_eq_true (by omega)) ?_
          refine jx (pc' := 61) (L' := [_, _, _, _, _]) (st' := [.int (zI 0)]) 1 rfl ?_
          exact t61 false (decide_eq_false (fun z => by
            have h1 := z.2
            have h2 := pp0 k
            rw [mod_s] at h1
            have h3 : 1 * 10 ^ k ≤ C / 10 ^ k % 10 * 10 ^ k := Nat.mul_le_mul_right _ (by omega)
            omega)).symm
  have hb1 := dg_b C (fD d.1 - 1)
  refine jx (pc' := 1) (L' := [_, _, _, _, _]) (st' := [_]) 1 rfl ?_
  refine jcs (pc' := 4) 176 [_] [] rfl rfl rfl rfl rfl rfl rfl rfl ?_
  refine m_digitsOf hf0 hf (jk ?_)
  refine jx (pc' := 6) (L' := [_, _, _, _, _]) (st' := [_]) 2 rfl ?_
  refine jgf (pc' := 9) K.ob rfl rfl rfl rfl rfl ?_
  refine jx (pc' := 16) (L' := [_, _, _, _, _]) (st' := [_, _]) 5 rfl ?_
  try simp (disch := omega) only [kz, kzl0, kzl1, kzb, kzs, zI_add, zI_sub, zI_neg, zI_mul, zL_i, zI_l, zL_add, zL_sub, zL_neg]
  refine jR_d (pc' := 17) 8 ((fD d.1 - 1)) K rfl rfl (by omega) (by omega) (by omega)  rfl ?_
  simp only [va_up_self]
  rw [hC]
  refine jx (pc' := 18) (L' := [_, _, _, _, _]) (st' := [.int (zI 1), _]) 1 rfl ?_
  by_cases h0 : C / 10 ^ (fD d.1 - 1) % 10 = 1
  · skip
    refine jcn (pc' := 21) 25 rfl rfl rfl rfl (by rw [zc_ne ⟨by omega, by omega⟩ ⟨by omega, by omega⟩]; exact decide_eq_false (by omega)) ?_
    refine jx (pc' := 30) (L' := [_, _, _, _, _]) (st' := []) 5 rfl ?_
    try simp (disch := omega) only [kz, kzl0, kzl1, kzb, kzs, zI_add, zI_sub, zI_neg, zI_mul, zL_i, zI_l, zL_add, zL_sub, zL_neg]
    exact look _ 0 (Nat.zero_add _) true (decide_eq_true ⟨h0, by rw [Nat.pow_zero, Nat.mod_one]⟩).symm
  · skip
    refine jct (pc' := 25) rfl rfl rfl (by rw [zc_ne ⟨by omega, by omega⟩ ⟨by omega, by omega⟩]; exact decide_eq_true (by omega)) ?_
    refine jx (pc' := 30) (L' := [_, _, _, _, _]) (st' := []) 4 rfl ?_
    try simp (disch := omega) only [kz, kzl0, kzl1, kzb, kzs, zI_add, zI_sub, zI_neg, zI_mul, zL_i, zI_l, zL_add, zL_sub, zL_neg]
    exact look _ 0 (Nat.zero_add _) false (decide_eq_false (fun z => h0 z.1)).symm
theorem m_next (K : (RI S0 h R V cd dr ra si tr mo ng sp sz wr il rs pt rl wo tx ou)) (vA : ValD (R 9)) (hA : (R 9).2.1 < 2) (q : ∀ h', (RJ S0 h' (va_up R 8 (nxF (R 9) b)) cd dr ra si tr sz wr tx ou) → Q (.inl none) h') : ix_M 242 [.ref 98, .int (zI 9), .int (bI b)] h Q := by
  have bA := Val.b vA
  have cA := Val.c34 vA
  have hsA := swp_b vA.2.1
  have fA := vA.1
  have fb := f3b fA
  have gb := gEb fA
  have hdA := dgs_le cA
  unfold nxF at q
  refine jx (pc' := 1) (L' := [_, _, _, _, _, _, _, _]) (st' := [_]) 1 rfl ?_
  refine jgf (pc' := 4) K.ob rfl rfl rfl rfl rfl ?_
  refine jx (pc' := 5) (L' := [_, _, _, _, _, _, _, _]) (st' := [_, _]) 1 rfl ?_
  refine jR_f (pc' := 6) 9 K rfl rfl (by omega) (by omega)  rfl ?_
  refine jx (pc' := 8) (L' := [_, _, _, _, _, _, _, _]) (st' := [_]) 2 rfl ?_
  refine jcs (pc' := 11) 176 [_] [] rfl rfl rfl rfl rfl rfl rfl rfl ?_
  refine m_digitsOf rfl fA (jk ?_)
  refine jx (pc' := 14) (L' := [_, _, _, _, _, _, _, _]) (st' := [_]) 2 rfl ?_
  refine jcs (pc' := 17) 179 [_] [] rfl rfl rfl rfl rfl rfl rfl rfl ?_
  refine m_biasOf rfl fA (jk ?_)
  refine jx (pc' := 21) (L' := [_, _, _, _, _, _, _, _]) (st' := [_]) 3 rfl ?_
  try simp (disch := omega) only [kz, kzl0, kzl1, kzb, kzs, zI_add, zI_sub, zI_neg, zI_mul, zL_i, zI_l, zL_add, zL_sub, zL_neg]
  refine jgf (pc' := 24) K.ob rfl rfl rfl rfl rfl ?_
  refine jx (pc' := 25) (L' := [_, _, _, _, _, _, _, _]) (st' := [_, _]) 1 rfl ?_
  refine jR_so (pc' := 26) 9 K rfl rfl (by omega) (by omega)  rfl ?_
  refine jx (pc' := 27) (L' := [_, _, _, _, _, _, _, _]) (st' := [.int (zI 1), _]) 1 rfl ?_
  by_cases e : (R 9).2.1 = 1
  · have e1 := swp_1.mpr e
    rw [if_pos e] at q
    refine jcn (pc' := 30) 119 rfl rfl rfl rfl (by rw [zc_ne ⟨by omega, by omega⟩ ⟨by omega, by omega⟩]; exact decide_eq_false (by omega)) ?_
    by_cases en : (R 9).2.2.1 = b
    · rw [if_pos en] at q
      have loop : ∀ n k : Nat, k + n = fD (R 9).1 → ∀ h1, (RI S0 h1 (va_up R 8 ((R 9).1, 0, (R 9).2.2.1, gE (R 9).1, (10 ^ 40 - 1) % 10 ^ k)) V cd dr ra si tr mo ng sp sz wr il rs pt rl wo tx ou) → ix_E 242 63 [some (.ref 98), some (.int (zI 9)), some (.int (bI b)), some (.int (zI (R 9).1)), some (.int (zI (fD (R 9).1))), some (.int (zI (-(fB (R 9).1 : Int)))), some (.int (zI (k : Int))), none] [] h1 Q := by
        intro n
        induction n with
        | zero =>
          intro k hk h K
          obtain rfl : k = fD (R 9).1 := by omega
          rw [nin_m (by omega)] at K
          refine jx (pc' := 67) (L' := [_, _, _, _, _, _, _, _]) (st' := [_, _]) 2 rfl ?_
          refine jct (pc' := 99) rfl rfl rfl (by rw [zc_ge ⟨by omega, by omega⟩ ⟨by omega, by omega⟩]; exact decide_eq_true (by omega)) ?_
          refine jx (pc' := 100) (L' := [_, _, _, _, _, _, _, _]) (st' := [_]) 1 rfl ?_
          refine jgf (pc' := 103) K.ob rfl rfl rfl rfl rfl ?_
          refine jx (pc' := 105) (L' := [_, _, _, _, _, _, _, _]) (st' := [.int (zI 8), _]) 1 rfl ?_
          refine jR_so (pc' := 106) 8 K rfl rfl (by omega) (by omega)  rfl ?_
          simp only [va_up_self]
          refine jx (pc' := 107) (L' := [_, _, _, _, _, _, _, _]) (st' := [.int (zI 1), _]) 1 rfl ?_
          refine jct (pc' := 118) rfl rfl rfl (by rfl) ?_
          refine ix_qr _ rfl rfl rfl ?_
          exact q _ K.rj
        | succ n ih =>
          intro k hk h K
          refine jx (pc' := 67) (L' := [_, _, _, _, _, _, _, _]) (st' := [_, _]) 2 rfl ?_
          refine jcn (pc' := 70) 99 rfl rfl rfl rfl (by rw [zc_ge ⟨by omega, by omega⟩ ⟨by omega, by omega⟩]; exact decide_eq_false (by omega)) ?_
          refine jx (pc' := 71) (L' := [_, _, _, _, _, _, _, _]) (st' := [_]) 1 rfl ?_
          refine jgf (pc' := 74) K.ob rfl rfl rfl rfl rfl ?_
          refine jx (pc' := 75) (L' := [_, _, _, _, _, _, _, _]) (st' := [_, _]) 1 rfl ?_
          refine jR_m (pc' := 76) 9 K rfl rfl (by omega) (by omega)  rfl ?_
          rw [va_up_ne _ _ (by decide)]
          refine jx (pc' := 77) (L' := [_, _, _, _, _, _, _, _]) (st' := [_, _]) 1 rfl ?_
          refine jcn (pc' := 80) 99 rfl rfl rfl rfl (by rw [bc_ne, decide_eq_false (fun z => z en)]) ?_
          refine jx (pc' := 81) (L' := [_, _, _, _, _, _, _, _]) (st' := [_]) 1 rfl ?_
          refine jgf (pc' := 84) K.ob rfl rfl rfl rfl rfl ?_
          refine jx (pc' := 92) (L' := [_, _, _, _, _, _, _, _]) (st' := [.int (zI 9), _, _]) 4 rfl ?_
          try simp (disch := omega) only [kz, kzl0, kzl1, kzb, kzs, zI_add, zI_sub, zI_neg, zI_mul, zL_i, zI_l, zL_add, zL_sub, zL_neg]
          refine jW_d (pc' := 93) 8 k 9 K (by first | rfl | (congr 1; omega)) rfl rfl (by omega) (by omega) (by omega)  rfl (by omega) fun h K => ?_
          have e := sd_cp 0 (10 ^ 40 - 1) k
          rw [nin_d k (by omega), Nat.zero_div, Nat.zero_div, Nat.zero_mul, Nat.zero_mul, Nat.zero_add, Nat.zero_add] at e
          rw [va_up_self, va_up_up, e] at K
          refine jx (pc' := 63) (L' := [_, _, _, _, _, _, _, _]) (st' := []) 2 rfl ?_
          try simp (disch := omega) only [kz, kzl0, kzl1, kzb, kzs, zI_add, zI_sub, zI_neg, zI_mul, zL_i, zI_l, zL_add, zL_sub, zL_neg]
          rw [show (k : Int) + 1 = ((k + 1 : Nat) : Int) by omega]
          exact ih (k + 1) (by omega) _ K
      refine jx (pc' := 33) (L' := [_, _, _, _, _, _, _, _]) (st' := [_, _, _]) 3 rfl ?_
      refine jgf (pc' := 36) K.ob rfl rfl rfl rfl rfl ?_
      refine jx (pc' := 37) (L' := [_, _, _, _, _, _, _, _]) (st' := [_, _, _, _]) 1 rfl ?_
      refine jR_m (pc' := 38) 9 K rfl rfl (by omega) (by omega)  rfl ?_
      refine jx (pc' := 39) (L' := [_, _, _, _, _, _, _, _]) (st' := [_, _, _, _]) 1 rfl ?_
      refine jcn (pc' := 42) 46 rfl rfl rfl rfl (by rw [bc_ne, decide_eq_false (fun z => z en)]) ?_
      refine jx (pc' := 48) (L' := [_, _, _, _, _, _, _, _]) (st' := [_, .int (zI 0), _, _]) 3 rfl ?_
      refine jgf (pc' := 51) K.ob rfl rfl rfl rfl rfl ?_
      refine jx (pc' := 52) (L' := [_, _, _, _, _, _, _, _]) (st' := [_, _, .int (zI 0), _, _]) 1 rfl ?_
      refine jR_m (pc' := 53) 9 K rfl rfl (by omega) (by omega)  rfl ?_
      refine jx (pc' := 54) (L' := [_, _, _, _, _, _, _, _]) (st' := [_, _, .int (zI 0), _, _]) 1 rfl ?_
      refine jcs (pc' := 57) 209 [_] [_, .int (zI 0), _, _] rfl rfl rfl rfl rfl rfl rfl rfl ?_
      refine m_greatestPower rfl fA (jk ?_)
      refine jcv (pc' := 60) 202 [_, .int (zI 0), _, _] [] K.ob rfl rfl rfl rfl rfl rfl rfl rfl ?_
      refine m_become (s := 0) (b := (R 9).2.2.1) K rfl rfl fA (by decide) ⟨by omega, by omega⟩ fun h K => jk ?_
      refine jx (pc' := 63) (L' := [_, _, _, _, _, _, _, _]) (st' := []) 2 rfl ?_
      try simp (disch := omega) only [kz, kzl0, kzl1, kzb, kzs, zI_add, zI_sub, zI_neg, zI_mul, zL_i, zI_l, zL_add, zL_sub, zL_neg]
      refine loop _ 0 (Nat.zero_add _) h ?_
      rw [Nat.pow_zero, Nat.mod_one]
      exact K
    · rw [if_neg en] at q
      refine jx (pc' := 33) (L' := [_, _, _, _, _, _, _, _]) (st' := [_, _, _]) 3 rfl ?_
      refine jgf (pc' := 36) K.ob rfl rfl rfl rfl rfl ?_
      refine jx (pc' := 37) (L' := [_, _, _, _, _, _, _, _]) (st' := [_, _, _, _]) 1 rfl ?_
      refine jR_m (pc' := 38) 9 K rfl rfl (by omega) (by omega)  rfl ?_
      refine jx (pc' := 39) (L' := [_, _, _, _, _, _, _, _]) (st' := [_, _, _, _]) 1 rfl ?_
      refine jct (pc' := 46) rfl rfl rfl (by rw [bc_ne, decide_eq_true en]) ?_
      refine jx (pc' := 48) (L' := [_, _, _, _, _, _, _, _]) (st' := [_, .int (zI 1), _, _]) 2 rfl ?_
      refine jgf (pc' := 51) K.ob rfl rfl rfl rfl rfl ?_
      refine jx (pc' := 52) (L' := [_, _, _, _, _, _, _, _]) (st' := [_, _, .int (zI 1), _, _]) 1 rfl ?_
      refine jR_m (pc' := 53) 9 K rfl rfl (by omega) (by omega)  rfl ?_
      refine jx (pc' := 54) (L' := [_, _, _, _, _, _, _, _]) (st' := [_, _, .int (zI 1), _, _]) 1 rfl ?_
      refine jcs (pc' := 57) 209 [_] [_, .int (zI 1), _, _] rfl rfl rfl rfl rfl rfl rfl rfl ?_
      refine m_greatestPower rfl fA (jk ?_)
      refine jcv (pc' := 60) 202 [_, .int (zI 1), _, _] [] K.ob rfl rfl rfl rfl rfl rfl rfl rfl ?_
      refine m_become (s := 1) (b := (R 9).2.2.1) K rfl rfl fA (by decide) ⟨by omega, by omega⟩ fun h K => jk ?_
      refine jx (pc' := 67) (L' := [_, _, _, _, _, _, _, _]) (st' := [_, _]) 4 rfl ?_
      try simp (disch := omega) only [kz, kzl0, kzl1, kzb, kzs, zI_add, zI_sub, zI_neg, zI_mul, zL_i, zI_l, zL_add, zL_sub, zL_neg]
      refine jcn (pc' := 70) 99 rfl rfl rfl rfl (by rw [zc_ge ⟨by omega, by omega⟩ ⟨by omega, by omega⟩]; exact decide_eq_false (by omega)) ?_
      refine jx (pc' := 71) (L' := [_, _, _, _, _, _, _, _]) (st' := [_]) 1 rfl ?_
      refine jgf (pc' := 74) K.ob rfl rfl rfl rfl rfl ?_
      refine jx (pc' := 75) (L' := [_, _, _, _, _, _, _, _]) (st' := [_, _]) 1 rfl ?_
      refine jR_m (pc' := 76) 9 K rfl rfl (by omega) (by omega)  rfl ?_
      rw [va_up_ne _ _ (by decide)]
      refine jx (pc' := 77) (L' := [_, _, _, _, _, _, _, _]) (st' := [_, _]) 1 rfl ?_
      refine jct (pc' := 99) rfl rfl rfl (by rw [bc_ne, decide_eq_true en]) ?_
      refine jx (pc' := 100) (L' := [_, _, _, _, _, _, _, _]) (st' := [_]) 1 rfl ?_
      refine jgf (pc' := 103) K.ob rfl rfl rfl rfl rfl ?_
      refine jx (pc' := 105) (L' := [_, _, _, _, _, _, _, _]) (st' := [.int (zI 8), _]) 1 rfl ?_
      refine jR_so (pc' := 106) 8 K rfl rfl (by omega) (by omega)  rfl ?_
      simp only [va_up_self]
      refine jx (pc' := 107) (L' := [_, _, _, _, _, _, _, _]) (st' := [.int (zI 1), _]) 1 rfl ?_
      refine jcn (pc' := 110) 118 rfl rfl rfl rfl (by rfl) ?_
      refine jx (pc' := 111) (L' := [_, _, _, _, _, _, _, _]) (st' := [_]) 1 rfl ?_
      refine jgf (pc' := 114) K.ob rfl rfl rfl rfl rfl ?_
      refine jx (pc' := 117) (L' := [_, _, _, _, _, _, _, _]) (st' := [.int (zI 0), .int (zI 8), _]) 2 rfl ?_
      refine jW_p (pc' := 118) 8 0 K (by first | rfl | (congr 1; omega)) rfl rfl (by omega) (by omega)  rfl ⟨by omega, by omega⟩ fun h K => ?_
      rw [va_up_self, va_up_up] at K
      refine ix_qr _ rfl rfl rfl ?_
      exact q _ K.rj
  · have e1 : ¬ swp (R 9).2.1 = 1 := fun z => e (swp_1.mp z)
    rw [if_neg e] at q
    refine jct (pc' := 119) rfl rfl rfl (by rw [zc_ne ⟨by omega, by omega⟩ ⟨by omega, by omega⟩]; exact decide_eq_true (by omega)) ?_
    refine jx (pc' := 120) (L' := [_, _, _, _, _, _, _, _]) (st' := [_]) 1 rfl ?_
    refine jcv (pc' := 123) 204 [] [] K.ob rfl rfl rfl rfl rfl rfl rfl rfl ?_
    refine m_empty K fun h K => jk ?_
    refine jx (pc' := 125) (L' := [_, _, _, _, _, _, _, _]) (st' := [_, _]) 2 rfl ?_
    refine jcv (pc' := 128) 197 [_] [] K.ob rfl rfl rfl rfl rfl rfl rfl rfl ?_
    refine m_isZero (r := 9) K rfl (by decide) (jk ?_)
    by_cases hz : (R 9).2.1 = 0 ∧ (R 9).2.2.2.2 = 0
    · rw [if_pos hz] at q
      refine jin (pc' := 131) 158 rfl rfl rfl rfl (by rw [bz_eq, decide_eq_true hz]; rfl) ?_
      have t143 : ix_E 242 143 [some (.ref 98), some (.int (zI 9)), some (.int (bI b)), some (.int (zI (R 9).1)), some (.int (zI (fD (R 9).1))), some (.int (zI (-(fB (R 9).1 : Int)))), none, none] [.int (bI (!b)), .int (zI 0), .int (zI (R 9).1), .ref 98] h Q := by
        refine jx (pc' := 145) (L' := [_, _, _, _, _, _, _, _]) (st' := [_, _, _, _, _]) 1 rfl ?_
        refine jcv (pc' := 148) 202 [_, _, _, _] [] K.ob rfl rfl rfl rfl rfl rfl rfl rfl ?_
        refine m_become (s := 0) (b := !b) K rfl rfl fA (by decide) ⟨by omega, by omega⟩ fun h K => jk ?_
        refine jx (pc' := 149) (L' := [_, _, _, _, _, _, _, _]) (st' := [_]) 1 rfl ?_
        refine jgf (pc' := 152) K.ob rfl rfl rfl rfl rfl ?_
        refine jx (pc' := 156) (L' := [_, _, _, _, _, _, _, _]) (st' := [.int (zI 1), .int (zI 320), _]) 2 rfl ?_
        refine jW_d (pc' := 157) 8 0 1 K (by first | rfl | (congr 1; omega)) rfl rfl (by omega) (by omega) (by omega)  rfl (by omega) fun h K => ?_
        have e2 : sd 0 0 1 = 1 := by decide
        rw [va_up_self, va_up_up, e2] at K
        refine ix_qr _ rfl rfl rfl ?_
        exact q _ K.rj
      cases b
      · skip
        refine jx (pc' := 135) (L' := [_, _, _, _, _, _, _, _]) (st' := [_, .int (zI 0), _, _]) 4 rfl ?_
        refine jin (pc' := 138) 142 rfl rfl rfl rfl (by rfl) ?_
        refine jx (pc' := 143) (L' := [_, _, _, _, _, _, _, _]) (st' := [.int (zI 1), .int (zI 0), _, _]) 2 rfl ?_
        exact t143
      · skip
        refine jx (pc' := 135) (L' := [_, _, _, _, _, _, _, _]) (st' := [_, .int (zI 0), _, _]) 4 rfl ?_
        refine jit (pc' := 142) rfl rfl rfl (by rfl) ?_
        refine jx (pc' := 143) (L' := [_, _, _, _, _, _, _, _]) (st' := [.int (zI 0), .int (zI 0), _, _]) 1 rfl ?_
        exact t143
    · rw [if_neg hz] at q
      have hc0 : 0 < (R 9).2.2.2.2 := by omega
      have hs0 : (R 9).2.1 = 0 := by omega
      obtain ⟨q1, q2, q3, q4, q5, q6, q7⟩ := nxQ_e vA hc0
      have hQd : nxQ (R 9) = max (-(fB (R 9).1 : Int)) ((dgs (pV (R 9).2.2.2.1 (R 9).2.2.2.2) : Int) - 12500 - fD (R 9).1) := rfl
      refine jit (pc' := 158) rfl rfl rfl (by rw [bz_eq, decide_eq_false hz]; rfl) ?_
      have t173 : ∀ aw : Bool, aw = decide (¬ (R 9).2.2.1 = b) → ix_E 242 173 [some (.ref 98), some (.int (zI 9)), some (.int (bI b)), some (.int (zI (R 9).1)), some (.int (zI (fD (R 9).1))), some (.int (zI (-(fB (R 9).1 : Int)))), none, none] [.int (bI aw)] h Q := by
        intro aw haw
        refine jx (pc' := 178) (L' := [_, _, _, _, _, _, _, _]) (st' := [_, _, _]) 4 rfl ?_
        refine jgf (pc' := 181) K.ob rfl rfl rfl rfl rfl ?_
        refine jx (pc' := 182) (L' := [_, _, _, _, _, _, _, _]) (st' := [_, _, _, _]) 1 rfl ?_
        refine jR_p (pc' := 183) 9 K rfl rfl (by omega) (by omega)  rfl ?_
        refine jcv (pc' := 186) 205 [_, _] [] K.ob rfl rfl rfl rfl rfl rfl rfl rfl ?_
        have hu1 : (((12500 + (R 9).2.2.2.1).toNat : Nat) : Int) = 12500 + (R 9).2.2.2.1 := by omega
        refine m_lay (r := 9) K rfl (by decide) _ hu1 (by omega) fun h K => jk ?_
        have hWd : (R 9).2.2.2.2 * 10 ^ (12500 + (R 9).2.2.2.1).toNat = pV (R 9).2.2.2.1 (R 9).2.2.2.2 := rfl
        rw [hWd] at K
        refine jx (pc' := 189) (L' := [_, _, _, _, _, _, _, _]) (st' := [_, _]) 2 rfl ?_
        refine jcv (pc' := 192) 211 [] [_] K.ob rfl rfl rfl rfl rfl rfl rfl rfl ?_
        refine m_first K fun hd => jk ?_
        refine jx (pc' := 201) (L' := [_, _, _, _, _, _, _, _]) (st' := [_, _]) 6 rfl ?_
        try simp (disch := omega) only [kz, kzl0, kzl1, kzb, kzs, zI_add, zI_sub, zI_neg, zI_mul, zL_i, zI_l, zL_add, zL_sub, zL_neg]
        refine jcs (pc' := 204) 273 [_, _] [] rfl rfl rfl rfl rfl rfl rfl rfl ?_
        refine c_maxI ⟨by omega, by omega⟩ ⟨by omega, by omega⟩ (jk ?_)
        rw [show max (-(fB (R 9).1 : Int)) ((dgs (pV (R 9).2.2.2.1 (R 9).2.2.2.2) : Int) - 1 - 12500 - fD (R 9).1 + 1) = nxQ (R 9) by omega]
        refine jx (pc' := 210) (L' := [_, _, _, _, _, _, _, _]) (st' := [_, .int (zI 0), _, _]) 5 rfl ?_
        refine jgf (pc' := 213) K.ob rfl rfl rfl rfl rfl ?_
        refine jx (pc' := 214) (L' := [_, _, _, _, _, _, _, _]) (st' := [_, _, .int (zI 0), _, _]) 1 rfl ?_
        refine jR_m (pc' := 215) 9 K rfl rfl (by omega) (by omega)  rfl ?_
        refine jx (pc' := 217) (L' := [_, _, _, _, _, _, _, _]) (st' := [_, _, .int (zI 0), _, _]) 1 rfl ?_
        refine jcv (pc' := 220) 202 [_, .int (zI 0), _, _] [] K.ob rfl rfl rfl rfl rfl rfl rfl rfl ?_
        refine m_become (s := 0) (b := (R 9).2.2.1) K rfl rfl fA (by decide) ⟨by omega, by omega⟩ fun h K => jk ?_
        refine jx (pc' := 224) (L' := [_, _, _, _, _, _, _, _]) (st' := [.int (zI 0), _, _]) 3 rfl ?_
        refine jcv (pc' := 227) 214 [_, .int (zI 0)] [] K.ob rfl rfl rfl rfl rfl rfl rfl rfl ?_
        obtain ⟨u, hu⟩ : ∃ u : Nat, (u : Int) = 12500 + nxQ (R 9) := ⟨(12500 + nxQ (R 9)).toNat, by omega⟩
        refine m_take (b := false) K u hu ⟨by omega, by omega⟩ (fun z => nomatch z) fun h K => jk ?_
        have e5 : pV (R 9).2.2.2.1 (R 9).2.2.2.2 / 10 ^ u % 10 ^ 40 + false.toNat = pV (R 9).2.2.2.1 (R 9).2.2.2.2 / 10 ^ (12500 + nxQ (R 9)).toNat := by
          rw [show (12500 + nxQ (R 9)).toNat = u by omega] at q3 ⊢
          rw [q3]
          exact Nat.mod_eq_of_lt (Nat.lt_of_lt_of_le q5 (pl (by omega)))
        simp only [va_up_self, va_up_up, ite_self] at K
        rw [e5] at K
        refine jx (pc' := 228) (L' := [_, _, _, _, _, _, _, _]) (st' := [_]) 1 rfl ?_
        refine jgf (pc' := 231) K.ob rfl rfl rfl rfl rfl ?_
        refine jx (pc' := 235) (L' := [_, _, _, _, _, _, _, _]) (st' := [_, .int (zI 8), _]) 2 rfl ?_
        refine jW_p (pc' := 236) 8 ((nxQ (R 9))) K (by first | rfl | (congr 1; omega)) rfl rfl (by omega) (by omega)  rfl ⟨by omega, by omega⟩ fun h K => ?_
        rw [va_up_self, va_up_up] at K
        refine jx (pc' := 238) (L' := [_, _, _, _, _, _, _, _]) (st' := [_]) 1 rfl ?_
        rw [← q3] at q5 q4
        have hqb : -12500 ≤ nxQ (R 9) ∧ nxQ (R 9) ≤ 12500 := ⟨by omega, by omega⟩
        have hq0 : 0 < pV (R 9).2.2.2.1 (R 9).2.2.2.2 / 10 ^ (12500 + nxQ (R 9)).toNat := by rw [q3]; exact Nat.mul_pos hc0 (pp0 _)
        cases aw
        · have hn : ¬ ¬ (R 9).2.2.1 = b := of_decide_eq_false haw.symm
          rw [if_neg hn] at q
          refine jit (pc' := 249) rfl rfl rfl (by rfl) ?_
          refine jx (pc' := 251) (L' := [_, _, _, _, _, _, _, _]) (st' := [_, _]) 2 rfl ?_
          refine jcv (pc' := 254) 244 [_] [] K.ob rfl rfl rfl rfl rfl rfl rfl rfl ?_
          refine m_stepIn (d := ((R 9).1, 0, (R 9).2.2.1, nxQ (R 9), pV (R 9).2.2.2.1 (R 9).2.2.2.2 / 10 ^ (12500 + nxQ (R 9)).toNat)) K rfl fA q5 hq0 hqb fun h K => jk ?_
          refine ix_qr _ rfl rfl rfl ?_
          exact q _ K.rj
        · have hn : ¬ (R 9).2.2.1 = b := of_decide_eq_true haw.symm
          rw [if_pos hn] at q
          refine jin (pc' := 241) 249 rfl rfl rfl rfl (by rfl) ?_
          refine jx (pc' := 243) (L' := [_, _, _, _, _, _, _, _]) (st' := [_, _]) 2 rfl ?_
          refine jcv (pc' := 246) 243 [_] [] K.ob rfl rfl rfl rfl rfl rfl rfl rfl ?_
          refine m_stepOut (d := ((R 9).1, 0, (R 9).2.2.1, nxQ (R 9), pV (R 9).2.2.2.1 (R 9).2.2.2.2 / 10 ^ (12500 + nxQ (R 9)).toNat)) K rfl fA q5 hqb fun h K => jk ?_
          refine jx (pc' := 254) (L' := [_, _, _, _, _, _, _, _]) (st' := []) 1 rfl ?_
          refine ix_qr _ rfl rfl rfl ?_
          exact q _ K.rj
      refine jx (pc' := 159) (L' := [_, _, _, _, _, _, _, _]) (st' := [_]) 1 rfl ?_
      refine jgf (pc' := 162) K.ob rfl rfl rfl rfl rfl ?_
      refine jx (pc' := 163) (L' := [_, _, _, _, _, _, _, _]) (st' := [_, _]) 1 rfl ?_
      refine jR_m (pc' := 164) 9 K rfl rfl (by omega) (by omega)  rfl ?_
      refine jx (pc' := 165) (L' := [_, _, _, _, _, _, _, _]) (st' := [_, _]) 1 rfl ?_
      by_cases en : (R 9).2.2.1 = b
      · skip
        refine jct (pc' := 172) rfl rfl rfl (by rw [bc_eq, decide_eq_true en]) ?_
        refine jx (pc' := 173) (L' := [_, _, _, _, _, _, _, _]) (st' := [.int (zI 0)]) 1 rfl ?_
        exact t173 false (decide_eq_false (fun z => z en)).symm
      · skip
        refine jcn (pc' := 168) 172 rfl rfl rfl rfl (by rw [bc_eq, decide_eq_false en]) ?_
        refine jx (pc' := 173) (L' := [_, _, _, _, _, _, _, _]) (st' := [.int (zI 1)]) 2 rfl ?_
        exact t173 true (decide_eq_true en).symm
end REF
