/-! ===== the reference: small methods ===== -/
theorem dg_0 {v n : Nat} (h : v < 10 ^ (n + 1)) (h0 : v / 10 ^ n % 10 = 0) : v < 10 ^ n := by
  have h1 : v / 10 ^ n < 10 := (Nat.div_lt_iff_lt_mul (pp0 n)).mpr (by rw [Nat.mul_comm, ← Nat.pow_succ]; exact h)
  have h2 : v / 10 ^ n = 0 := by generalize v / 10 ^ n = u at *; omega
  exact Nat.lt_of_div_eq_zero (pp0 n) h2
theorem dg_n {v n : Nat} (h0 : ¬ v / 10 ^ n % 10 = 0) : 10 ^ n ≤ v := by
  refine Nat.le_of_not_lt fun h => h0 ?_
  rw [Nat.div_eq_of_lt h]
theorem sd_cl (c k : Nat) : sd (c / 10 ^ k * 10 ^ k) k 0 = c / 10 ^ (k + 1) * 10 ^ (k + 1) := by
  unfold sd
  rw [Nat.mul_mod_left, Nat.zero_mul, Nat.add_zero, Nat.add_zero, Nat.pow_succ, ← Nat.div_div_eq_div_mul, Nat.mul_div_cancel _ (pp0 k), Nat.div_div_eq_div_mul]
theorem sd_cp (c d k : Nat) : sd (c / 10 ^ k * 10 ^ k + d % 10 ^ k) k (d / 10 ^ k % 10) = c / 10 ^ (k + 1) * 10 ^ (k + 1) + d % 10 ^ (k + 1) := by
  have h1 := Nat.mod_lt d (pp0 k)
  unfold sd
  rw [dgh _ h1 (by omega), show k + 1 - k = 1 by omega, Nat.pow_one, Nat.add_comm (c / 10 ^ k * 10 ^ k), Nat.add_mul_mod_self_right, Nat.mod_mod, Nat.div_div_eq_div_mul, ← Nat.pow_succ]
  rw [← v10_of d (k + 1), v10_s, v10_of]
  simp only [Nat.succ_eq_add_one]
  omega
section REF
variable {h : ix_H} {Q : ix_O → ix_H → Prop} {S0 : Nat → AC} {R : Nat → Dm} {V cd dr ra si tr : Nat} {mo ng : Bool} {sp sz wr : Nat} {il : Bool} {rs pt rl wo tx ou : Nat → Nat} {j x : Int} {r f s : Nat} {b : Bool}
theorem m_isTarget (hx : zr x) (q : Q (.inl (some (.int (bI (decide (0 ≤ x ∧ x < 8)))))) h) : ix_M 166 [.int (zI x)] h Q := by
  have hx1 := hx.1
  have hx2 := hx.2
  refine jx (pc' := 1) (L' := [_]) (st' := [_]) 1 rfl ?_
  by_cases h0 : x < 0
  · skip
    refine jit (pc' := 14) rfl rfl rfl (by rw [zz_lt ⟨by omega, by omega⟩]; exact decide_eq_true (by omega)) ?_
    refine jx (pc' := 15) (L' := [_]) (st' := [.int (zI 0)]) 1 rfl ?_
    rw [decide_eq_false (by omega)] at q
    exact jrb rfl rfl q
  · skip
    refine jin (pc' := 4) 14 rfl rfl rfl rfl (by rw [zz_lt ⟨by omega, by omega⟩]; exact decide_eq_false (by omega)) ?_
    refine jx (pc' := 7) (L' := [_]) (st' := [.int (zI 8), _]) 2 rfl ?_
    by_cases h1 : x < 8
    · skip
      refine jcn (pc' := 10) 14 rfl rfl rfl rfl (by rw [zc_ge ⟨by omega, by omega⟩ ⟨by omega, by omega⟩]; exact decide_eq_false (by omega)) ?_
      refine jx (pc' := 15) (L' := [_]) (st' := [.int (zI 1)]) 2 rfl ?_
      rw [decide_eq_true (by omega)] at q
      exact jrb rfl rfl q
    · skip
      refine jct (pc' := 14) rfl rfl rfl (by rw [zc_ge ⟨by omega, by omega⟩ ⟨by omega, by omega⟩]; exact decide_eq_true (by omega)) ?_
      refine jx (pc' := 15) (L' := [_]) (st' := [.int (zI 0)]) 1 rfl ?_
      rw [decide_eq_false (by omega)] at q
      exact jrb rfl rfl q
theorem m_isSource (hx : zr x) (q : Q (.inl (some (.int (bI (decide (0 ≤ x ∧ x ≤ 8)))))) h) : ix_M 181 [.int (zI x)] h Q := by
  have hx1 := hx.1
  have hx2 := hx.2
  refine jx (pc' := 1) (L' := [_]) (st' := [_]) 1 rfl ?_
  by_cases h0 : x < 0
  · skip
    refine jit (pc' := 14) rfl rfl rfl (by rw [zz_lt ⟨by omega, by omega⟩]; exact decide_eq_true (by omega)) ?_
    refine jx (pc' := 15) (L' := [_]) (st' := [.int (zI 0)]) 1 rfl ?_
    rw [decide_eq_false (by omega)] at q
    exact jrb rfl rfl q
  · skip
    refine jin (pc' := 4) 14 rfl rfl rfl rfl (by rw [zz_lt ⟨by omega, by omega⟩]; exact decide_eq_false (by omega)) ?_
    refine jx (pc' := 7) (L' := [_]) (st' := [.int (zI 8), _]) 2 rfl ?_
    by_cases h1 : x ≤ 8
    · skip
      refine jcn (pc' := 10) 14 rfl rfl rfl rfl (by rw [zc_gt ⟨by omega, by omega⟩ ⟨by omega, by omega⟩]; exact decide_eq_false (by omega)) ?_
      refine jx (pc' := 15) (L' := [_]) (st' := [.int (zI 1)]) 2 rfl ?_
      rw [decide_eq_true (by omega)] at q
      exact jrb rfl rfl q
    · skip
      refine jct (pc' := 14) rfl rfl rfl (by rw [zc_gt ⟨by omega, by omega⟩ ⟨by omega, by omega⟩]; exact decide_eq_true (by omega)) ?_
      refine jx (pc' := 15) (L' := [_]) (st' := [.int (zI 0)]) 1 rfl ?_
      rw [decide_eq_false (by omega)] at q
      exact jrb rfl rfl q
theorem m_isFormat (hx : zr x) (q : Q (.inl (some (.int (bI (decide (0 ≤ x ∧ x < 3)))))) h) : ix_M 167 [.int (zI x)] h Q := by
  have hx1 := hx.1
  have hx2 := hx.2
  refine jx (pc' := 1) (L' := [_]) (st' := [_]) 1 rfl ?_
  by_cases h0 : x < 0
  · skip
    refine jit (pc' := 13) rfl rfl rfl (by rw [zz_lt ⟨by omega, by omega⟩]; exact decide_eq_true (by omega)) ?_
    refine jx (pc' := 14) (L' := [_]) (st' := [.int (zI 0)]) 1 rfl ?_
    rw [decide_eq_false (by omega)] at q
    exact jrb rfl rfl q
  · skip
    refine jin (pc' := 4) 13 rfl rfl rfl rfl (by rw [zz_lt ⟨by omega, by omega⟩]; exact decide_eq_false (by omega)) ?_
    refine jx (pc' := 6) (L' := [_]) (st' := [.int (zI 3), _]) 2 rfl ?_
    by_cases h1 : x < 3
    · skip
      refine jcn (pc' := 9) 13 rfl rfl rfl rfl (by rw [zc_ge ⟨by omega, by omega⟩ ⟨by omega, by omega⟩]; exact decide_eq_false (by omega)) ?_
      refine jx (pc' := 14) (L' := [_]) (st' := [.int (zI 1)]) 2 rfl ?_
      rw [decide_eq_true (by omega)] at q
      exact jrb rfl rfl q
    · skip
      refine jct (pc' := 13) rfl rfl rfl (by rw [zc_ge ⟨by omega, by omega⟩ ⟨by omega, by omega⟩]; exact decide_eq_true (by omega)) ?_
      refine jx (pc' := 14) (L' := [_]) (st' := [.int (zI 0)]) 1 rfl ?_
      rw [decide_eq_false (by omega)] at q
      exact jrb rfl rfl q
theorem m_digitsOf (hj : j = (f : Int)) (hf : f < 3) (q : Q (.inl (some (.int (zI (fD f))))) h) : ix_M 176 [.int (zI j)] h Q := by
  subst hj
  refine jx (pc' := 1) (L' := [_]) (st' := [_]) 1 rfl ?_
  rcases f3 hf with rfl | rfl | rfl
  · skip
    refine jin (pc' := 4) 9 rfl rfl rfl rfl (by rfl) ?_
    refine jx (pc' := 21) (L' := [_]) (st' := [.int (zI 7)]) 2 rfl ?_
    refine jri rfl rfl ?_
    exact q
  · skip
    refine jit (pc' := 9) rfl rfl rfl (by rfl) ?_
    refine jx (pc' := 11) (L' := [_]) (st' := [.int (zI 1), _]) 2 rfl ?_
    refine jcn (pc' := 14) 19 rfl rfl rfl rfl (by rfl) ?_
    refine jx (pc' := 21) (L' := [_]) (st' := [.int (zI 16)]) 2 rfl ?_
    refine jri rfl rfl ?_
    exact q
  · skip
    refine jit (pc' := 9) rfl rfl rfl (by rfl) ?_
    refine jx (pc' := 11) (L' := [_]) (st' := [.int (zI 1), _]) 2 rfl ?_
    refine jct (pc' := 19) rfl rfl rfl (by rfl) ?_
    refine jx (pc' := 21) (L' := [_]) (st' := [.int (zI 34)]) 1 rfl ?_
    refine jri rfl rfl ?_
    exact q
theorem m_biasOf (hj : j = (f : Int)) (hf : f < 3) (q : Q (.inl (some (.int (zI (fB f))))) h) : ix_M 179 [.int (zI j)] h Q := by
  subst hj
  refine jx (pc' := 1) (L' := [_]) (st' := [_]) 1 rfl ?_
  rcases f3 hf with rfl | rfl | rfl
  · skip
    refine jin (pc' := 4) 9 rfl rfl rfl rfl (by rfl) ?_
    refine jx (pc' := 23) (L' := [_]) (st' := [.int (zI 101)]) 2 rfl ?_
    refine jri rfl rfl ?_
    exact q
  · skip
    refine jit (pc' := 9) rfl rfl rfl (by rfl) ?_
    refine jx (pc' := 11) (L' := [_]) (st' := [.int (zI 1), _]) 2 rfl ?_
    refine jcn (pc' := 14) 20 rfl rfl rfl rfl (by rfl) ?_
    refine jx (pc' := 23) (L' := [_]) (st' := [.int (zI 398)]) 2 rfl ?_
    refine jri rfl rfl ?_
    exact q
  · skip
    refine jit (pc' := 9) rfl rfl rfl (by rfl) ?_
    refine jx (pc' := 11) (L' := [_]) (st' := [.int (zI 1), _]) 2 rfl ?_
    refine jct (pc' := 20) rfl rfl rfl (by rfl) ?_
    refine jx (pc' := 23) (L' := [_]) (st' := [.int (zI 6176)]) 1 rfl ?_
    refine jri rfl rfl ?_
    exact q
theorem m_mostOf (hj : j = (f : Int)) (hf : f < 3) (q : Q (.inl (some (.int (zI (fE f))))) h) : ix_M 210 [.int (zI j)] h Q := by
  subst hj
  refine jx (pc' := 1) (L' := [_]) (st' := [_]) 1 rfl ?_
  rcases f3 hf with rfl | rfl | rfl
  · skip
    refine jin (pc' := 4) 9 rfl rfl rfl rfl (by rfl) ?_
    refine jx (pc' := 23) (L' := [_]) (st' := [.int (zI 96)]) 2 rfl ?_
    refine jri rfl rfl ?_
    exact q
  · skip
    refine jit (pc' := 9) rfl rfl rfl (by rfl) ?_
    refine jx (pc' := 11) (L' := [_]) (st' := [.int (zI 1), _]) 2 rfl ?_
    refine jcn (pc' := 14) 20 rfl rfl rfl rfl (by rfl) ?_
    refine jx (pc' := 23) (L' := [_]) (st' := [.int (zI 384)]) 2 rfl ?_
    refine jri rfl rfl ?_
    exact q
  · skip
    refine jit (pc' := 9) rfl rfl rfl (by rfl) ?_
    refine jx (pc' := 11) (L' := [_]) (st' := [.int (zI 1), _]) 2 rfl ?_
    refine jct (pc' := 20) rfl rfl rfl (by rfl) ?_
    refine jx (pc' := 23) (L' := [_]) (st' := [.int (zI 6144)]) 1 rfl ?_
    refine jri rfl rfl ?_
    exact q
def fFd (f : Nat) : Nat := [8, 10, 14].getD f 0
theorem m_fieldOf (hj : j = (f : Int)) (hf : f < 3) (q : Q (.inl (some (.int (zI (fFd f))))) h) : ix_M 171 [.int (zI j)] h Q := by
  subst hj
  refine jx (pc' := 1) (L' := [_]) (st' := [_]) 1 rfl ?_
  rcases f3 hf with rfl | rfl | rfl
  · skip
    refine jin (pc' := 4) 9 rfl rfl rfl rfl (by rfl) ?_
    refine jx (pc' := 21) (L' := [_]) (st' := [.int (zI 8)]) 2 rfl ?_
    refine jri rfl rfl ?_
    exact q
  · skip
    refine jit (pc' := 9) rfl rfl rfl (by rfl) ?_
    refine jx (pc' := 11) (L' := [_]) (st' := [.int (zI 1), _]) 2 rfl ?_
    refine jcn (pc' := 14) 19 rfl rfl rfl rfl (by rfl) ?_
    refine jx (pc' := 21) (L' := [_]) (st' := [.int (zI 10)]) 2 rfl ?_
    refine jri rfl rfl ?_
    exact q
  · skip
    refine jit (pc' := 9) rfl rfl rfl (by rfl) ?_
    refine jx (pc' := 11) (L' := [_]) (st' := [.int (zI 1), _]) 2 rfl ?_
    refine jct (pc' := 19) rfl rfl rfl (by rfl) ?_
    refine jx (pc' := 21) (L' := [_]) (st' := [.int (zI 14)]) 1 rfl ?_
    refine jri rfl rfl ?_
    exact q
def fWd (f : Nat) : Nat := [32, 64, 128].getD f 0
theorem m_widthOf (hj : j = (f : Int)) (hf : f < 3) (q : Q (.inl (some (.int (zI (fWd f))))) h) : ix_M 169 [.int (zI j)] h Q := by
  subst hj
  rcases f3 hf with rfl | rfl | rfl
  · skip
    refine jx (pc' := 4) (L' := [_]) (st' := [_]) 3 rfl ?_
    try simp (disch := omega) only [kz, kzl0, kzl1, kzb, kzs, zI_add, zI_sub, zI_neg, zI_mul, zL_i, zI_l, zL_add, zL_sub, zL_neg]
    refine jri rfl rfl ?_
    exact q
  · skip
    refine jx (pc' := 4) (L' := [_]) (st' := [_]) 3 rfl ?_
    try simp (disch := omega) only [kz, kzl0, kzl1, kzb, kzs, zI_add, zI_sub, zI_neg, zI_mul, zL_i, zI_l, zL_add, zL_sub, zL_neg]
    refine jri rfl rfl ?_
    exact q
  · skip
    refine jx (pc' := 4) (L' := [_]) (st' := [_]) 3 rfl ?_
    try simp (disch := omega) only [kz, kzl0, kzl1, kzb, kzs, zI_add, zI_sub, zI_neg, zI_mul, zL_i, zI_l, zL_add, zL_sub, zL_neg]
    refine jri rfl rfl ?_
    exact q
theorem m_greatestPower (hj : j = (f : Int)) (hf : f < 3) (q : Q (.inl (some (.int (zI (gE f))))) h) : ix_M 209 [.int (zI j)] h Q := by
  have fb := f3b hf
  refine jx (pc' := 1) (L' := [_]) (st' := [_]) 1 rfl ?_
  refine jcs (pc' := 4) 210 [_] [] rfl rfl rfl rfl rfl rfl rfl rfl ?_
  refine m_mostOf hj hf (jk ?_)
  refine jx (pc' := 5) (L' := [_]) (st' := [_, _]) 1 rfl ?_
  refine jcs (pc' := 8) 176 [_] [_] rfl rfl rfl rfl rfl rfl rfl rfl ?_
  refine m_digitsOf hj hf (jk ?_)
  refine jx (pc' := 11) (L' := [_]) (st' := [_]) 3 rfl ?_
  try simp (disch := omega) only [kz, kzl0, kzl1, kzb, kzs, zI_add, zI_sub, zI_neg, zI_mul, zL_i, zI_l, zL_add, zL_sub, zL_neg]
  refine jri rfl rfl ?_
  exact q
theorem m_within {a b c : Int} (ha : zr a) (hb : zr b) (hc : zr c) (q : Q (.inl (some (.int (zI (if a < b then b else if c < a then c else a))))) h) : ix_M 212 [.int (zI a), .int (zI b), .int (zI c)] h Q := by
  have ha1 := ha.1
  have ha2 := ha.2
  have hb1 := hb.1
  have hb2 := hb.2
  have hc1 := hc.1
  have hc2 := hc.2
  refine jx (pc' := 2) (L' := [_, _, _]) (st' := [_, _]) 2 rfl ?_
  by_cases h0 : a < b
  · skip
    refine jcn (pc' := 5) 9 rfl rfl rfl rfl (by rw [zc_ge ⟨by omega, by omega⟩ ⟨by omega, by omega⟩]; exact decide_eq_false (by omega)) ?_
    rw [if_pos h0] at q
    refine jx (pc' := 19) (L' := [_, _, _]) (st' := [_]) 2 rfl ?_
    refine jri rfl rfl ?_
    exact q
  · skip
    refine jct (pc' := 9) rfl rfl rfl (by rw [zc_ge ⟨by omega, by omega⟩ ⟨by omega, by omega⟩]; exact decide_eq_true (by omega)) ?_
    rw [if_neg h0] at q
    refine jx (pc' := 11) (L' := [_, _, _]) (st' := [_, _]) 2 rfl ?_
    by_cases h1 : c < a
    · skip
      refine jcn (pc' := 14) 18 rfl rfl rfl rfl (by rw [zc_le ⟨by omega, by omega⟩ ⟨by omega, by omega⟩]; exact decide_eq_false (by omega)) ?_
      rw [if_pos h1] at q
      refine jx (pc' := 19) (L' := [_, _, _]) (st' := [_]) 2 rfl ?_
      refine jri rfl rfl ?_
      exact q
    · skip
      refine jct (pc' := 18) rfl rfl rfl (by rw [zc_le ⟨by omega, by omega⟩ ⟨by omega, by omega⟩]; exact decide_eq_true (by omega)) ?_
      rw [if_neg h1] at q
      refine jx (pc' := 19) (L' := [_, _, _]) (st' := [_]) 1 rfl ?_
      refine jri rfl rfl ?_
      exact q
theorem m_fails (K : (RI S0 h R V cd dr ra si tr mo ng sp sz wr il rs pt rl wo tx ou)) (q : ∀ h', (RI S0 h' R V (b.toNat) dr ra si tr mo ng sp sz wr il rs pt rl wo tx ou) → Q (.inl (some (.int (bI b)))) h') : ix_M 168 [.ref 98, .int (bI b)] h Q := by
  refine jx (pc' := 2) (L' := [_, _]) (st' := [_, _]) 2 rfl ?_
  cases b
  · skip
    refine jit (pc' := 9) rfl rfl rfl (by rfl) ?_
    refine jx (pc' := 10) (L' := [_, _]) (st' := [.int (zI 0), _]) 1 rfl ?_
    refine jp_cd (pc' := 13) 0 K (by first | rfl | (congr 1; omega)) rfl rfl rfl rfl fun h K => ?_
    refine jx (pc' := 14) (L' := [_, _]) (st' := [_]) 1 rfl ?_
    exact jrb rfl rfl (q _ K)
  · skip
    refine jin (pc' := 5) 9 rfl rfl rfl rfl (by rfl) ?_
    refine jx (pc' := 10) (L' := [_, _]) (st' := [.int (zI 1), _]) 2 rfl ?_
    refine jp_cd (pc' := 13) 1 K (by first | rfl | (congr 1; omega)) rfl rfl rfl rfl fun h K => ?_
    refine jx (pc' := 14) (L' := [_, _]) (st' := [_]) 1 rfl ?_
    exact jrb rfl rfl (q _ K)
theorem m_isNaN (K : (RI S0 h R V cd dr ra si tr mo ng sp sz wr il rs pt rl wo tx ou)) (hj : j = (r : Int)) (hr : r < 12) (q : Q (.inl (some (.int (bI (decide (2 ≤ (R r).2.1)))))) h) : ix_M 194 [.ref 98, .int (zI j)] h Q := by
  have hv := swp_b (K.rv hr).2.1
  refine jx (pc' := 1) (L' := [_, _]) (st' := [_]) 1 rfl ?_
  refine jgf (pc' := 4) K.ob rfl rfl rfl rfl rfl ?_
  refine jx (pc' := 5) (L' := [_, _]) (st' := [_, _]) 1 rfl ?_
  refine jR_so (pc' := 6) r K rfl rfl (by omega) (by omega)  rfl ?_
  refine jx (pc' := 7) (L' := [_, _]) (st' := [.int (zI 2), _]) 1 rfl ?_
  by_cases h0 : 2 ≤ (R r).2.1
  · have h1 := swp_n.mpr h0
    rw [decide_eq_true h0] at q
    refine jcn (pc' := 10) 14 rfl rfl rfl rfl (by rw [zc_lt ⟨by omega, by omega⟩ ⟨by omega, by omega⟩]; exact decide_eq_false (by omega)) ?_
    refine jx (pc' := 15) (L' := [_, _]) (st' := [.int (zI 1)]) 2 rfl ?_
    exact jrb rfl rfl q
  · have h1 : ¬ 2 ≤ swp (R r).2.1 := fun z => h0 (swp_n.mp z)
    rw [decide_eq_false h0] at q
    refine jct (pc' := 14) rfl rfl rfl (by rw [zc_lt ⟨by omega, by omega⟩ ⟨by omega, by omega⟩]; exact decide_eq_true (by omega)) ?_
    refine jx (pc' := 15) (L' := [_, _]) (st' := [.int (zI 0)]) 1 rfl ?_
    exact jrb rfl rfl q
theorem m_many (K : (RI S0 h R V cd dr ra si tr mo ng sp sz wr il rs pt rl wo tx ou)) (hj : j = (r : Int)) (hr : r < 12) (q : dgs (R r).2.2.2.2 ≤ 40 → Q (.inl (some (.int (zI (dgs (R r).2.2.2.2))))) h) : ix_M 178 [.ref 98, .int (zI j)] h Q := by
  subst hj
  have hv := (K.rv hr).2.2.2.2
  have hd := dgs_le hv
  have loop : ∀ n : Nat, n ≤ 40 → (R r).2.2.2.2 < 10 ^ n → ix_E 178 3 [some (.ref 98), some (.int (zI (r : Int))), some (.int (zI (n : Int)))] [] h Q := by
    intro n
    induction n with
    | zero =>
      intro _ hc
      refine jx (pc' := 4) (L' := [_, _, _]) (st' := [_]) 1 rfl ?_
      refine jit (pc' := 29) rfl rfl rfl (by rw [zz_le ⟨by omega, by omega⟩]; exact decide_eq_true (by omega)) ?_
      refine jx (pc' := 30) (L' := [_, _, _]) (st' := [_]) 1 rfl ?_
      refine jri rfl rfl ?_
      have : dgs (R r).2.2.2.2 = 0 := dgs_0 (by omega)
      rw [this] at q
      exact q (by omega)
    | succ n ih =>
      intro hn hc
      refine jx (pc' := 4) (L' := [_, _, _]) (st' := [_]) 1 rfl ?_
      refine jin (pc' := 7) 29 rfl rfl rfl rfl (by rw [zz_le ⟨by omega, by omega⟩]; exact decide_eq_false (by omega)) ?_
      refine jx (pc' := 8) (L' := [_, _, _]) (st' := [_]) 1 rfl ?_
      refine jgf (pc' := 11) K.ob rfl rfl rfl rfl rfl ?_
      refine jx (pc' := 19) (L' := [_, _, _]) (st' := [_, _]) 7 rfl ?_
      try simp (disch := omega) only [kz, kzl0, kzl1, kzb, kzs, zI_add, zI_sub, zI_neg, zI_mul, zL_i, zI_l, zL_add, zL_sub, zL_neg]
      refine jR_d (pc' := 20) r n K rfl rfl (by omega) (by omega) (by omega)  rfl ?_
      have hb := dg_b (R r).2.2.2.2 n
      by_cases h0 : (R r).2.2.2.2 / 10 ^ n % 10 = 0
      · skip
        refine jin (pc' := 23) 29 rfl rfl rfl rfl (by rw [zz_ne ⟨by omega, by omega⟩]; exact decide_eq_false (by omega)) ?_
        refine jx (pc' := 3) (L' := [_, _, _]) (st' := []) 2 rfl ?_
        try simp (disch := omega) only [kz, kzl0, kzl1, kzb, kzs, zI_add, zI_sub, zI_neg, zI_mul, zL_i, zI_l, zL_add, zL_sub, zL_neg]
        rw [show ((n + 1 : Nat) : Int) + -1 = (n : Int) by omega]
        exact ih (by omega) (dg_0 hc h0)
      · skip
        refine jit (pc' := 29) rfl rfl rfl (by rw [zz_ne ⟨by omega, by omega⟩]; exact decide_eq_true (by omega)) ?_
        refine jx (pc' := 30) (L' := [_, _, _]) (st' := [_]) 1 rfl ?_
        refine jri rfl rfl ?_
        have h1 := dgs_gt (dg_n h0)
        have h2 := dgs_le hc
        rw [show dgs (R r).2.2.2.2 = n + 1 by omega] at q
        exact q hn
  refine jx (pc' := 3) (L' := [_, _, _]) (st' := []) 2 rfl ?_
  try simp (disch := omega) only [kz, kzl0, kzl1, kzb, kzs, zI_add, zI_sub, zI_neg, zI_mul, zL_i, zI_l, zL_add, zL_sub, zL_neg]
  exact loop 40 (by omega) hv
theorem m_isZero (K : (RI S0 h R V cd dr ra si tr mo ng sp sz wr il rs pt rl wo tx ou)) (hj : j = (r : Int)) (hr : r < 12) (q : Q (.inl (some (.int (bI (decide ((R r).2.1 = 0 ∧ (R r).2.2.2.2 = 0)))))) h) : ix_M 197 [.ref 98, .int (zI j)] h Q := by
  have hv := swp_b (K.rv hr).2.1
  refine jx (pc' := 1) (L' := [_, _]) (st' := [_]) 1 rfl ?_
  refine jgf (pc' := 4) K.ob rfl rfl rfl rfl rfl ?_
  refine jx (pc' := 5) (L' := [_, _]) (st' := [_, _]) 1 rfl ?_
  refine jR_so (pc' := 6) r K rfl rfl (by omega) (by omega)  rfl ?_
  by_cases h0 : (R r).2.1 = 0
  · have h1 := swp_0.mpr h0
    refine jin (pc' := 9) 21 rfl rfl rfl rfl (by rw [zz_ne ⟨by omega, by omega⟩]; exact decide_eq_false (by omega)) ?_
    refine jx (pc' := 11) (L' := [_, _]) (st' := [_, _]) 2 rfl ?_
    refine jcv (pc' := 14) 178 [_] [] K.ob rfl rfl rfl rfl rfl rfl rfl rfl ?_
    refine m_many K hj hr fun hd => jk ?_
    by_cases h2 : (R r).2.2.2.2 = 0
    · have h3 := dgs_0 h2
      rw [decide_eq_true ⟨h0, h2⟩] at q
      refine jin (pc' := 17) 21 rfl rfl rfl rfl (by rw [zz_ne ⟨by omega, by omega⟩]; exact decide_eq_false (by omega)) ?_
      refine jx (pc' := 22) (L' := [_, _]) (st' := [.int (zI 1)]) 2 rfl ?_
      exact jrb rfl rfl q
    · have h3 : ¬ dgs (R r).2.2.2.2 = 0 := fun z => h2 (dgs_z z)
      rw [decide_eq_false (fun z => h2 z.2)] at q
      refine jit (pc' := 21) rfl rfl rfl (by rw [zz_ne ⟨by omega, by omega⟩]; exact decide_eq_true (by omega)) ?_
      refine jx (pc' := 22) (L' := [_, _]) (st' := [.int (zI 0)]) 1 rfl ?_
      exact jrb rfl rfl q
  · have h1 : ¬ swp (R r).2.1 = 0 := fun z => h0 (swp_0.mp z)
    rw [decide_eq_false (fun z => h0 z.1)] at q
    refine jit (pc' := 21) rfl rfl rfl (by rw [zz_ne ⟨by omega, by omega⟩]; exact decide_eq_true (by omega)) ?_
    refine jx (pc' := 22) (L' := [_, _]) (st' := [.int (zI 0)]) 1 rfl ?_
    exact jrb rfl rfl q
def atD (c : Nat) (k : Int) : Nat := if k < 0 then 0 else c / 10 ^ k.toNat % 10
theorem atD_b (c : Nat) (k : Int) : atD c k < 10 := by unfold atD; split; decide; exact dg_b _ _
theorem m_at {k : Int} (K : (RI S0 h R V cd dr ra si tr mo ng sp sz wr il rs pt rl wo tx ou)) (hj : j = (r : Int)) (hr : r < 12) (hk : zr k) (q : Q (.inl (some (.int (zI (atD (R r).2.2.2.2 k))))) h) : ix_M 198 [.ref 98, .int (zI j), .int (zI k)] h Q := by
  subst hj
  have hk1 := hk.1
  have hk2 := hk.2
  have hv := (K.rv hr).2.2.2.2
  unfold atD at q
  refine jx (pc' := 1) (L' := [_, _, _]) (st' := [_]) 1 rfl ?_
  by_cases h0 : k < 0
  · rw [if_pos h0] at q
    refine jit (pc' := 10) rfl rfl rfl (by rw [zz_lt ⟨by omega, by omega⟩]; exact decide_eq_true (by omega)) ?_
    refine jx (pc' := 25) (L' := [_, _, _]) (st' := [.int (zI 0)]) 2 rfl ?_
    refine jri rfl rfl ?_
    exact q
  · rw [if_neg h0] at q
    refine jin (pc' := 4) 10 rfl rfl rfl rfl (by rw [zz_lt ⟨by omega, by omega⟩]; exact decide_eq_false (by omega)) ?_
    refine jx (pc' := 7) (L' := [_, _, _]) (st' := [.int (zI 40), _]) 2 rfl ?_
    by_cases h1 : k < 40
    · skip
      refine jct (pc' := 14) rfl rfl rfl (by rw [zc_lt ⟨by omega, by omega⟩ ⟨by omega, by omega⟩]; exact decide_eq_true (by omega)) ?_
      refine jx (pc' := 15) (L' := [_, _, _]) (st' := [_]) 1 rfl ?_
      refine jgf (pc' := 18) K.ob rfl rfl rfl rfl rfl ?_
      refine jx (pc' := 24) (L' := [_, _, _]) (st' := [_, _]) 5 rfl ?_
      try simp (disch := omega) only [kz, kzl0, kzl1, kzb, kzs, zI_add, zI_sub, zI_neg, zI_mul, zL_i, zI_l, zL_add, zL_sub, zL_neg]
      refine jR_d (pc' := 25) r k.toNat K rfl rfl (by omega) (by omega) (by omega)  rfl ?_
      refine jri rfl rfl ?_
      exact q
    · rw [dg_z hv (by omega)] at q
      refine jcn (pc' := 10) 14 rfl rfl rfl rfl (by rw [zc_lt ⟨by omega, by omega⟩ ⟨by omega, by omega⟩]; exact decide_eq_false (by omega)) ?_
      refine jx (pc' := 25) (L' := [_, _, _]) (st' := [.int (zI 0)]) 2 rfl ?_
      refine jri rfl rfl ?_
      exact q
theorem m_clear (K : (RI S0 h R V cd dr ra si tr mo ng sp sz wr il rs pt rl wo tx ou)) (hj : j = (r : Int)) (hr : r < 12) (q : ∀ h', (RI S0 h' (va_up R r (sC (R r) 0)) V cd dr ra si tr mo ng sp sz wr il rs pt rl wo tx ou) → Q (.inl none) h') : ix_M 175 [.ref 98, .int (zI j)] h Q := by
  subst hj
  have hv := (K.rv hr).2.2.2.2
  have loop : ∀ n k : Nat, k + n = 40 → ∀ h1, (RI S0 h1 (va_up R r (sC (R r) ((R r).2.2.2.2 / 10 ^ k * 10 ^ k))) V cd dr ra si tr mo ng sp sz wr il rs pt rl wo tx ou) → ix_E 175 2 [some (.ref 98), some (.int (zI (r : Int))), some (.int (zI (k : Int)))] [] h1 Q := by
    intro n
    induction n with
    | zero =>
      intro k hk h K
      refine jx (pc' := 5) (L' := [_, _, _]) (st' := [.int (zI 40), _]) 2 rfl ?_
      refine jct (pc' := 26) rfl rfl rfl (by rw [zc_ge ⟨by omega, by omega⟩ ⟨by omega, by omega⟩]; exact decide_eq_true (by omega)) ?_
      refine ix_qr _ rfl rfl rfl ?_
      rw [Nat.div_eq_of_lt (show (R r).2.2.2.2 < 10 ^ k by rw [show k = 40 by omega]; exact hv), Nat.zero_mul] at K
      exact q _ K
    | succ n ih =>
      intro k hk h K
      refine jx (pc' := 5) (L' := [_, _, _]) (st' := [.int (zI 40), _]) 2 rfl ?_
      refine jcn (pc' := 8) 26 rfl rfl rfl rfl (by rw [zc_ge ⟨by omega, by omega⟩ ⟨by omega, by omega⟩]; exact decide_eq_false (by omega)) ?_
      refine jx (pc' := 9) (L' := [_, _, _]) (st' := [_]) 1 rfl ?_
      refine jgf (pc' := 12) K.ob rfl rfl rfl rfl rfl ?_
      refine jx (pc' := 19) (L' := [_, _, _]) (st' := [.int (zI 0), _, _]) 6 rfl ?_
      try simp (disch := omega) only [kz, kzl0, kzl1, kzb, kzs, zI_add, zI_sub, zI_neg, zI_mul, zL_i, zI_l, zL_add, zL_sub, zL_neg]
      refine jW_d (pc' := 20) r k 0 K (by first | rfl | (congr 1; omega)) rfl rfl (by omega) (by omega) (by omega)  rfl (by omega) fun h K => ?_
      rw [va_up_self, va_up_up, sd_cl] at K
      refine jx (pc' := 2) (L' := [_, _, _]) (st' := []) 2 rfl ?_
      try simp (disch := omega) only [kz, kzl0, kzl1, kzb, kzs, zI_add, zI_sub, zI_neg, zI_mul, zL_i, zI_l, zL_add, zL_sub, zL_neg]
      rw [show (k : Int) + 1 = ((k + 1 : Nat) : Int) by omega]
      exact ih (k + 1) (by omega) _ K
  refine jx (pc' := 2) (L' := [_, _, _]) (st' := []) 2 rfl ?_
  try simp (disch := omega) only [kz, kzl0, kzl1, kzb, kzs, zI_add, zI_sub, zI_neg, zI_mul, zL_i, zI_l, zL_add, zL_sub, zL_neg]
  refine loop 40 0 (by omega) h ?_
  rw [Nat.pow_zero, Nat.div_one, Nat.mul_one, va_up_id rfl]
  exact K
theorem m_become {f0 s0 e : Int} (K : (RI S0 h R V cd dr ra si tr mo ng sp sz wr il rs pt rl wo tx ou)) (hf0 : f0 = (f : Int)) (hs0 : s0 = (swp s : Nat)) (hf : f < 3) (hs : s < 4) (he : -30000 ≤ e ∧ e ≤ 30000) (q : ∀ h', (RI S0 h' (va_up R 8 (f, s, b, e, 0)) V cd dr ra si tr mo ng sp sz wr il rs pt rl wo tx ou) → Q (.inl none) h') : ix_M 202 [.ref 98, .int (zI f0), .int (zI s0), .int (bI b), .int (zI e)] h Q := by
  subst hf0
  subst hs0
  refine jx (pc' := 1) (L' := [_, _, _, _, _]) (st' := [_]) 1 rfl ?_
  refine jgf (pc' := 4) K.ob rfl rfl rfl rfl rfl ?_
  refine jx (pc' := 7) (L' := [_, _, _, _, _]) (st' := [_, .int (zI 8), _]) 2 rfl ?_
  refine jW_so (pc' := 8) 8 s K (by first | rfl | (congr 1; omega)) rfl rfl (by omega) (by omega)  rfl (by omega) fun h K => ?_
  refine jx (pc' := 9) (L' := [_, _, _, _, _]) (st' := [_]) 1 rfl ?_
  refine jgf (pc' := 12) K.ob rfl rfl rfl rfl rfl ?_
  refine jx (pc' := 15) (L' := [_, _, _, _, _]) (st' := [_, .int (zI 8), _]) 2 rfl ?_
  refine jW_f (pc' := 16) 8 f K (by first | rfl | (congr 1; omega)) rfl rfl (by omega) (by omega)  rfl (by omega) fun h K => ?_
  refine jx (pc' := 17) (L' := [_, _, _, _, _]) (st' := [_]) 1 rfl ?_
  refine jgf (pc' := 20) K.ob rfl rfl rfl rfl rfl ?_
  refine jx (pc' := 23) (L' := [_, _, _, _, _]) (st' := [_, .int (zI 8), _]) 2 rfl ?_
  refine jW_m (pc' := 24) 8 b K (by first | rfl | (congr 1; omega)) rfl rfl (by omega) (by omega)  rfl  fun h K => ?_
  refine jx (pc' := 25) (L' := [_, _, _, _, _]) (st' := [_]) 1 rfl ?_
  refine jgf (pc' := 28) K.ob rfl rfl rfl rfl rfl ?_
  refine jx (pc' := 32) (L' := [_, _, _, _, _]) (st' := [_, .int (zI 8), _]) 2 rfl ?_
  refine jW_p (pc' := 33) 8 e K (by first | rfl | (congr 1; omega)) rfl rfl (by omega) (by omega)  rfl ⟨by omega, by omega⟩ fun h K => ?_
  refine jx (pc' := 36) (L' := [_, _, _, _, _]) (st' := [.int (zI 8), _]) 2 rfl ?_
  refine jcv (pc' := 39) 175 [.int (zI 8)] [] K.ob rfl rfl rfl rfl rfl rfl rfl rfl ?_
  refine m_clear (r := 8) K rfl (by decide) fun h K => jk ?_
  refine ix_qr _ rfl rfl rfl ?_
  simp only [va_up_self, va_up_up] at K
  exact q _ K
theorem m_infinite {f0 : Int} (K : (RI S0 h R V cd dr ra si tr mo ng sp sz wr il rs pt rl wo tx ou)) (hf0 : f0 = (f : Int)) (hf : f < 3) (q : ∀ h', (RI S0 h' (va_up R 8 (f, 1, b, 0, 0)) V cd dr ra si tr mo ng sp sz wr il rs pt rl wo tx ou) → Q (.inl none) h') : ix_M 203 [.ref 98, .int (zI f0), .int (bI b)] h Q := by
  refine jx (pc' := 5) (L' := [_, _, _]) (st' := [.int (zI 0), _, .int (zI 1), _, _]) 5 rfl ?_
  refine jcv (pc' := 8) 202 [_, .int (zI 1), _, .int (zI 0)] [] K.ob rfl rfl rfl rfl rfl rfl rfl rfl ?_
  refine m_become (s := 1) K hf0 rfl hf (by decide) ⟨by decide, by decide⟩ fun h K => jk ?_
  refine ix_qr _ rfl rfl rfl ?_
  exact q _ K
theorem zor (a b : Nat) : zI (a : Int) ||| zI (b : Int) = zI ((a ||| b : Nat) : Int) := by rw [← nz, ← nz, ← nz, nI_or]
theorem zand (a b : Nat) : zI (a : Int) &&& zI (b : Int) = zI ((a &&& b : Nat) : Int) := by rw [← nz, ← nz, ← nz, nI_and]
theorem m_invalid {f0 : Int} (K : (RI S0 h R V cd dr ra si tr mo ng sp sz wr il rs pt rl wo tx ou)) (hf0 : f0 = (f : Int)) (hf : f < 3) (q : ∀ h', (RI S0 h' (va_up R 8 (f, 3, false, 0, 0)) V cd dr ra (si ||| 1) tr mo ng sp sz wr il rs pt rl wo tx ou) → Q (.inl none) h') : ix_M 201 [.ref 98, .int (zI f0)] h Q := by
  refine jx (pc' := 2) (L' := [_, _]) (st' := [_, _]) 2 rfl ?_
  refine jgf (pc' := 5) K.ob rfl rfl rfl rfl rfl ?_
  refine jx (pc' := 7) (L' := [_, _]) (st' := [_, _]) 2 rfl ?_
  try simp (disch := omega) only [kz, kzl0, kzl1, kzb, kzs, zI_add, zI_sub, zI_neg, zI_mul, zL_i, zI_l, zL_add, zL_sub, zL_neg]
  refine jp_si (pc' := 10) ((si ||| 1)) K (zor si 1) rfl rfl rfl rfl fun h K => ?_
  refine jx (pc' := 15) (L' := [_, _]) (st' := [.int (zI 0), .int (zI 0), .int (zI 2), _, _]) 5 rfl ?_
  refine jcv (pc' := 18) 202 [_, .int (zI 2), .int (zI 0), .int (zI 0)] [] K.ob rfl rfl rfl rfl rfl rfl rfl rfl ?_
  refine m_become (s := 3) (b := false) K hf0 rfl hf (by decide) ⟨by decide, by decide⟩ fun h K => jk ?_
  refine ix_qr _ rfl rfl rfl ?_
  exact q _ K
theorem m_drop {m0 : Int} {m : Nat} (K : (RI S0 h R V cd dr ra si tr mo ng sp sz wr il rs pt rl wo tx ou)) (hj : j = (r : Int)) (hr : r < 12) (hm0 : m0 = (m : Int)) (hm : m < 100) (q : ∀ h', (RI S0 h' (va_up R r (sC (R r) (if m < dgs (R r).2.2.2.2 then 0 else (R r).2.2.2.2))) V cd dr ra si tr mo ng sp sz wr il rs pt rl wo tx ou) → Q (.inl none) h') : ix_M 177 [.ref 98, .int (zI j), .int (zI m0)] h Q := by
  subst hm0
  refine jx (pc' := 2) (L' := [_, _, _]) (st' := [_, _]) 2 rfl ?_
  refine jcv (pc' := 5) 178 [_] [] K.ob rfl rfl rfl rfl rfl rfl rfl rfl ?_
  refine m_many K hj hr fun hd => jk ?_
  refine jx (pc' := 6) (L' := [_, _, _]) (st' := [_, _]) 1 rfl ?_
  by_cases h0 : m < dgs (R r).2.2.2.2
  · rw [if_pos h0] at q
    refine jcn (pc' := 9) 14 rfl rfl rfl rfl (by rw [zc_le ⟨by omega, by omega⟩ ⟨by omega, by omega⟩]; exact decide_eq_false (by omega)) ?_
    refine jx (pc' := 11) (L' := [_, _, _]) (st' := [_, _]) 2 rfl ?_
    refine jcv (pc' := 14) 175 [_] [] K.ob rfl rfl rfl rfl rfl rfl rfl rfl ?_
    refine m_clear K hj hr fun h K => jk ?_
    refine ix_qr _ rfl rfl rfl ?_
    exact q _ K
  · rw [if_neg h0, va_up_id rfl] at q
    refine jct (pc' := 14) rfl rfl rfl (by rw [zc_le ⟨by omega, by omega⟩ ⟨by omega, by omega⟩]; exact decide_eq_true (by omega)) ?_
    refine ix_qr _ rfl rfl rfl ?_
    exact q _ K
theorem m_copy {a0 b0 : Int} {a c : Nat} (K : (RI S0 h R V cd dr ra si tr mo ng sp sz wr il rs pt rl wo tx ou)) (ha0 : a0 = (a : Int)) (hb0 : b0 = (c : Int)) (ha : a < 12) (hc : c < 12) (hn : ¬ a = c) (q : ∀ h', (RI S0 h' (va_up R c (R a)) V cd dr ra si tr mo ng sp sz wr il rs pt rl wo tx ou) → Q (.inl none) h') : ix_M 192 [.ref 98, .int (zI a0), .int (zI b0)] h Q := by
  subst ha0
  subst hb0
  have hva := K.rv ha
  have hvc := (K.rv hc).2.2.2.2
  have loop : ∀ n k : Nat, k + n = 40 → ∀ h1, (RI S0 h1 (va_up R c (sC (R a) ((R c).2.2.2.2 / 10 ^ k * 10 ^ k + (R a).2.2.2.2 % 10 ^ k))) V cd dr ra si tr mo ng sp sz wr il rs pt rl wo tx ou) → ix_E 192 50 [some (.ref 98), some (.int (zI (a : Int))), some (.int (zI (c : Int))), some (.int (zI (k : Int)))] [] h1 Q := by
    intro n
    induction n with
    | zero =>
      intro k hk h K
      refine jx (pc' := 53) (L' := [_, _, _, _]) (st' := [.int (zI 40), _]) 2 rfl ?_
      refine jct (pc' := 84) rfl rfl rfl (by rw [zc_ge ⟨by omega, by omega⟩ ⟨by omega, by omega⟩]; exact decide_eq_true (by omega)) ?_
      refine ix_qr _ rfl rfl rfl ?_
      obtain rfl : k = 40 := by omega
      rw [Nat.div_eq_of_lt hvc, Nat.zero_mul, Nat.zero_add, Nat.mod_eq_of_lt hva.2.2.2.2] at K
      exact q _ K
    | succ n ih =>
      intro k hk h K
      have hb := dg_b (R a).2.2.2.2 k
      refine jx (pc' := 53) (L' := [_, _, _, _]) (st' := [.int (zI 40), _]) 2 rfl ?_
      refine jcn (pc' := 56) 84 rfl rfl rfl rfl (by rw [zc_ge ⟨by omega, by omega⟩ ⟨by omega, by omega⟩]; exact decide_eq_false (by omega)) ?_
      refine jx (pc' := 57) (L' := [_, _, _, _]) (st' := [_]) 1 rfl ?_
      refine jgf (pc' := 60) K.ob rfl rfl rfl rfl rfl ?_
      refine jx (pc' := 67) (L' := [_, _, _, _]) (st' := [_, _, _]) 6 rfl ?_
      try simp (disch := omega) only [kz, kzl0, kzl1, kzb, kzs, zI_add, zI_sub, zI_neg, zI_mul, zL_i, zI_l, zL_add, zL_sub, zL_neg]
      refine jgf (pc' := 70) K.ob rfl rfl rfl rfl rfl ?_
      refine jx (pc' := 76) (L' := [_, _, _, _]) (st' := [_, _, _, _]) 5 rfl ?_
      try simp (disch := omega) only [kz, kzl0, kzl1, kzb, kzs, zI_add, zI_sub, zI_neg, zI_mul, zL_i, zI_l, zL_add, zL_sub, zL_neg]
      refine jR_d (pc' := 77) a k K rfl rfl (by omega) (by omega) (by omega)  rfl ?_
      rw [va_up_ne _ _ hn]
      refine jW_d (pc' := 78) c k (((R a).2.2.2.2/10^k%10)) K (by first | rfl | (congr 1; omega)) rfl rfl (by omega) (by omega) (by omega)  rfl (by omega) fun h K => ?_
      rw [va_up_self, va_up_up, sd_cp] at K
      refine jx (pc' := 50) (L' := [_, _, _, _]) (st' := []) 2 rfl ?_
      try simp (disch := omega) only [kz, kzl0, kzl1, kzb, kzs, zI_add, zI_sub, zI_neg, zI_mul, zL_i, zI_l, zL_add, zL_sub, zL_neg]
      rw [show (k : Int) + 1 = ((k + 1 : Nat) : Int) by omega]
      exact ih (k + 1) (by omega) _ K
  have hn' : c ≠ a := fun z => hn z.symm
  refine jx (pc' := 1) (L' := [_, _, _, _]) (st' := [_]) 1 rfl ?_
  refine jgf (pc' := 4) K.ob rfl rfl rfl rfl rfl ?_
  refine jx (pc' := 6) (L' := [_, _, _, _]) (st' := [_, _, _]) 2 rfl ?_
  refine jgf (pc' := 9) K.ob rfl rfl rfl rfl rfl ?_
  refine jx (pc' := 10) (L' := [_, _, _, _]) (st' := [_, _, _, _]) 1 rfl ?_
  refine jR_m (pc' := 11) a K rfl rfl (by omega) (by omega)  rfl ?_
  refine jW_m (pc' := 12) c ((R a).2.2.1) K (by first | rfl | (congr 1; omega)) rfl rfl (by omega) (by omega)  rfl  fun h K => ?_
  refine jx (pc' := 13) (L' := [_, _, _, _]) (st' := [_]) 1 rfl ?_
  refine jgf (pc' := 16) K.ob rfl rfl rfl rfl rfl ?_
  refine jx (pc' := 18) (L' := [_, _, _, _]) (st' := [_, _, _]) 2 rfl ?_
  refine jgf (pc' := 21) K.ob rfl rfl rfl rfl rfl ?_
  refine jx (pc' := 22) (L' := [_, _, _, _]) (st' := [_, _, _, _]) 1 rfl ?_
  refine jR_so (pc' := 23) a K rfl rfl (by omega) (by omega)  rfl ?_
  rw [va_up_ne _ _ hn]
  refine jW_so (pc' := 24) c ((R a).2.1) K (by first | rfl | (congr 1; omega)) rfl rfl (by omega) (by omega)  rfl hva.2.1 fun h K => ?_
  refine jx (pc' := 25) (L' := [_, _, _, _]) (st' := [_]) 1 rfl ?_
  refine jgf (pc' := 28) K.ob rfl rfl rfl rfl rfl ?_
  refine jx (pc' := 30) (L' := [_, _, _, _]) (st' := [_, _, _]) 2 rfl ?_
  refine jgf (pc' := 33) K.ob rfl rfl rfl rfl rfl ?_
  refine jx (pc' := 34) (L' := [_, _, _, _]) (st' := [_, _, _, _]) 1 rfl ?_
  refine jR_f (pc' := 35) a K rfl rfl (by omega) (by omega)  rfl ?_
  rw [va_up_ne _ _ hn, va_up_ne _ _ hn]
  refine jW_f (pc' := 36) c ((R a).1) K (by first | rfl | (congr 1; omega)) rfl rfl (by omega) (by omega)  rfl hva.1 fun h K => ?_
  refine jx (pc' := 37) (L' := [_, _, _, _]) (st' := [_]) 1 rfl ?_
  refine jgf (pc' := 40) K.ob rfl rfl rfl rfl rfl ?_
  refine jx (pc' := 42) (L' := [_, _, _, _]) (st' := [_, _, _]) 2 rfl ?_
  refine jgf (pc' := 45) K.ob rfl rfl rfl rfl rfl ?_
  refine jx (pc' := 46) (L' := [_, _, _, _]) (st' := [_, _, _, _]) 1 rfl ?_
  refine jR_p (pc' := 47) a K rfl rfl (by omega) (by omega)  rfl ?_
  rw [va_up_ne _ _ hn, va_up_ne _ _ hn, va_up_ne _ _ hn]
  refine jW_p (pc' := 48) c ((R a).2.2.2.1) K (by first | rfl | (congr 1; omega)) rfl rfl (by omega) (by omega)  rfl ⟨hva.2.2.1,hva.2.2.2.1⟩ fun h K => ?_
  simp only [va_up_self, va_up_up] at K
  refine jx (pc' := 50) (L' := [_, _, _, _]) (st' := []) 2 rfl ?_
  try simp (disch := omega) only [kz, kzl0, kzl1, kzb, kzs, zI_add, zI_sub, zI_neg, zI_mul, zL_i, zI_l, zL_add, zL_sub, zL_neg]
  refine loop 40 0 (by omega) h ?_
  rw [Nat.pow_zero, Nat.div_one, Nat.mul_one, Nat.mod_one, Nat.add_zero]
  exact K
end REF
