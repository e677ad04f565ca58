/-! ===== the reference: root ===== -/
theorem zhalf {x : Int} (h1 : -100000 ≤ x) (h2 : x < 0) : zI (x - 1) / zI 2 = zI (x / 2) := by
  refine Int32.toInt_inj.mp ?_
  rw [Int32.toInt_div, zI_t ⟨by omega, by omega⟩, zI_t ⟨by omega, by omega⟩, zI_t ⟨by omega, by omega⟩]
  have e : (x - 1).tdiv 2 = x / 2 := by
    rw [show x - 1 = -(1 - x) by omega, Int.neg_tdiv, Int.tdiv_eq_ediv_of_nonneg (by omega)]
    omega
  rw [e]
  simp only [Int.bmod]
  split <;> omega
theorem sq_s (X : Nat) : (X + 1) * (X + 1) = X * X + 2 * X + 1 := by
  rw [Nat.add_mul, Nat.mul_add]
  omega
theorem sq_10 (s : Nat) : 10 * s * (10 * s) = 100 * (s * s) := by rw [Nat.mul_mul_mul_comm]
theorem sq_d (N two : Nat) (h : two < 100) : 10 * sq N ≤ sq (100 * N + two) ∧ sq (100 * N + two) < 10 * sq N + 10 := by
  have a1 := sq_1 N
  have a2 := sq_2 N
  have b1 := sq_1 (100 * N + two)
  have b2 := sq_2 (100 * N + two)
  have e1 := sq_10 (sq N)
  have e2 := sq_10 (sq N + 1)
  constructor
  · refine Nat.le_of_not_lt fun z => ?_
    have := Nat.mul_le_mul (show sq (100 * N + two) + 1 ≤ 10 * sq N from z) (show sq (100 * N + two) + 1 ≤ 10 * sq N from z)
    omega
  · refine Nat.lt_of_not_le fun z => ?_
    have := Nat.mul_le_mul (show 10 * (sq N + 1) ≤ sq (100 * N + two) by omega) (show 10 * (sq N + 1) ≤ sq (100 * N + two) by omega)
    omega
theorem sq_le (N : Nat) : sq N ≤ N := by
  have h5 := sq_1 N
  rcases Nat.eq_zero_or_pos (sq N) with z | z
  · rw [z]; exact Nat.zero_le _
  · exact Nat.le_trans (Nat.le_mul_of_pos_left _ z) h5
/-- no digit at the top -/
theorem v10_tp {f : Nat → Nat} {k n : Nat} (h : v10 f n < 10 ^ k) (hk : k ≤ n) : v10 f n = v10 f k := by
  induction n with
  | zero => rw [show k = 0 by omega]
  | succ n ih =>
    by_cases e : k = n + 1
    · rw [e]
    · rw [v10_s] at h ⊢
      rcases Nat.eq_zero_or_pos (f n) with z | z
      · rw [z, Nat.zero_mul, Nat.add_zero] at h ⊢
        exact ih h (by omega)
      · have h1 : 1 * 10 ^ n ≤ f n * 10 ^ n := Nat.mul_le_mul_right _ z
        have h2 := pl (a := k) (b := n) (by omega)
        omega
section REF
variable {h : ix_H} {Q : ix_O → ix_H → Prop} {S0 : Nat → AC} {R : Nat → Dm} {V cd dr ra si tr : Nat} {mo ng : Bool} {sp sz wr : Nat} {il : Bool} {rs pt rl wo tx ou : Nat → Nat} {j x : Int} {r f s m a : Nat} {b t : Bool}
theorem m_halfOf (hx : -100000 ≤ x ∧ x ≤ 100000) (q : Q (.inl (some (.int (zI (x / 2))))) h) : ix_M 238 [.int (zI x)] h Q := by
  refine jx (pc' := 1) (L' := [_]) (st' := [_]) 1 rfl ?_
  by_cases h0 : x < 0
  · skip
    refine jit (pc' := 10) rfl rfl rfl (by rw [zz_lt ⟨by omega, by omega⟩]; exact decide_eq_true (by omega)) ?_
    refine jx (pc' := 14) (L' := [_]) (st' := [.int (zI 2), _]) 4 rfl ?_
    try simp (disch := omega) only [kz, kzl0, kzl1, kzb, kzs, zI_add, zI_sub, zI_neg, zI_mul, zL_i, zI_l, zL_add, zL_sub, zL_neg]
    refine jidiv (pc' := 15) rfl rfl (by decide) rfl ?_
    rw [zhalf hx.1 h0]
    refine jri rfl rfl ?_
    exact q
  · skip
    refine jin (pc' := 4) 10 rfl rfl rfl rfl (by rw [zz_lt ⟨by omega, by omega⟩]; exact decide_eq_false (by omega)) ?_
    refine jx (pc' := 6) (L' := [_]) (st' := [.int (zI 2), _]) 2 rfl ?_
    refine jidiv (pc' := 7) rfl rfl (by decide) rfl ?_
    rw [zdiv ⟨by omega, by omega⟩ ⟨by omega, by omega⟩]
    refine jx (pc' := 15) (L' := [_]) (st' := [_]) 1 rfl ?_
    refine jri rfl rfl ?_
    exact q
theorem m_layPart {l0 : Int} {last : Nat} (K : (RI S0 h R V cd dr ra si tr mo ng (130) sz wr il rs pt rl wo tx ou)) (hl0 : l0 = (last : Int)) (hl : last < 30) (hr : ∀ j, j < 130 → rl j < 10) (hb : 20 * v10 rl 129 + last < 10 ^ 130) (q : ∀ h' pt', (∀ j, j < 130 → pt' j < 10) → v10 pt' 130 = 20 * v10 rl 129 + last → (RI S0 h' R V cd dr ra si tr mo ng (130) sz wr il rs (pt') rl wo tx ou) → Q (.inl none) h') : ix_M 240 [.ref 98, .int (zI l0)] h Q := by
  subst hl0
  have loop : ∀ n k : Nat, k + n = 130 → ∀ (h1 : ix_H) (g : Nat → Nat) (ca : Nat) (l4 : Option Value), ca < 30 → (∀ j, j < k → g j < 10) → v10 g k + ca * 10 ^ k = last + 20 * v10 rl (k - 1) → (RI S0 h1 R V cd dr ra si tr mo ng (130) sz wr il rs (g) rl wo tx ou) → ix_E 240 4 [some (.ref 98), some (.int (zI (last : Int))), some (.int (zI (ca : Int))), some (.int (zI (k : Int))), l4] [] h1 Q := by
    intro n
    induction n with
    | zero =>
      intro k hk h g ca l4 hca hg e K
      obtain rfl : k = 130 := by omega
      have hca0 : ca = 0 := by
        rcases Nat.eq_zero_or_pos ca with z | z
        · exact z
        · have : 1 * 10 ^ 130 ≤ ca * 10 ^ 130 := Nat.mul_le_mul_right _ z
          rw [show 130 - 1 = 129 from rfl] at e
          omega
      rw [hca0, Nat.zero_mul, Nat.add_zero, show 130 - 1 = 129 from rfl] at e
      refine jx (pc' := 6) (L' := [_, _, _, _, _]) (st' := [_, _]) 2 rfl ?_
      refine jgf (pc' := 9) K.ob rfl rfl rfl rfl rfl ?_
      refine jct (pc' := 57) rfl rfl rfl (by rw [zc_ge ⟨by omega, by omega⟩ ⟨by omega, by omega⟩]; exact decide_eq_true (by omega)) ?_
      refine ix_qr _ rfl rfl rfl ?_
      exact q _ g hg (by omega) K
    | succ n ih =>
      intro k hk h g ca l4 hca hg e K
      have t30 : ∀ vv : Nat, vv < 20 → last + 20 * v10 rl (k - 1) + vv * 10 ^ k = last + 20 * v10 rl k → ix_E 240 30 [some (.ref 98), some (.int (zI (last : Int))), some (.int (zI (ca : Int))), some (.int (zI (k : Int))), l4] [.int (zI (vv : Int))] h Q := by
        intro vv hvv ev
        refine jx (pc' := 32) (L' := [_, _, _, _, _]) (st' := [_]) 2 rfl ?_
        try simp (disch := omega) only [kz, kzl0, kzl1, kzb, kzs, zI_add, zI_sub, zI_neg, zI_mul, zL_i, zI_l, zL_add, zL_sub, zL_neg]
        rw [show (vv : Int) + (ca : Int) = ((vv + ca : Nat) : Int) by omega]
        generalize hv : vv + ca = v at *
        refine jx (pc' := 35) (L' := [_, _, _, _, _]) (st' := [_]) 2 rfl ?_
        refine jgf (pc' := 38) K.ob rfl rfl rfl rfl rfl ?_
        refine jx (pc' := 43) (L' := [_, _, _, _, _]) (st' := [.int (zI 10), _, _, _]) 3 rfl ?_
        refine jirem (pc' := 44) rfl rfl (by decide) rfl ?_
        rw [zrem ⟨by omega, by omega⟩ ⟨by omega, by omega⟩]
        refine jW_t (pc' := 45) k (v % 10) K rfl rfl rfl (by omega) (by omega) rfl fun h K => ?_
        refine jx (pc' := 49) (L' := [_, _, _, _, _]) (st' := [.int (zI 10), _]) 2 rfl ?_
        refine jidiv (pc' := 50) rfl rfl (by decide) rfl ?_
        rw [zdiv ⟨by omega, by omega⟩ ⟨by omega, by omega⟩]
        refine jx (pc' := 4) (L' := [_, _, _, _, _]) (st' := []) 3 rfl ?_
        try simp (disch := omega) only [kz, kzl0, kzl1, kzb, kzs, zI_add, zI_sub, zI_neg, zI_mul, zL_i, zI_l, zL_add, zL_sub, zL_neg]
        rw [show (k : Int) + 1 = ((k + 1 : Nat) : Int) by omega, show (v : Int) / 10 = ((v / 10 : Nat) : Int) by omega]
        refine ih (k + 1) (by omega) h _ (v / 10) _ (by omega) (fun j hj => ?_) ?_ K
        · by_cases z : j = k
          · rw [z, va_up_self]; omega
          · rw [va_up_ne _ _ z]; exact hg j (by omega)
        · rw [v10_us, Nat.pow_succ, Nat.add_sub_cancel, ← ev, ← e]
          have h3 : v = 10 * (v / 10) + v % 10 := by omega
          have h4 : (vv + ca) * 10 ^ k = 10 * (v / 10) * 10 ^ k + v % 10 * 10 ^ k := by rw [hv, ← Nat.add_mul, ← h3]
          rw [Nat.add_mul] at h4
          have h5 : v / 10 * (10 ^ k * 10) = 10 * (v / 10) * 10 ^ k := by rw [Nat.mul_comm (10 ^ k) 10, ← Nat.mul_assoc, Nat.mul_comm (v / 10) 10]
          rw [h5]
          omega
      refine jx (pc' := 6) (L' := [_, _, _, _, _]) (st' := [_, _]) 2 rfl ?_
      refine jgf (pc' := 9) K.ob rfl rfl rfl rfl rfl ?_
      refine jcn (pc' := 12) 57 rfl rfl rfl rfl (by rw [zc_ge ⟨by omega, by omega⟩ ⟨by omega, by omega⟩]; exact decide_eq_false (by omega)) ?_
      refine jx (pc' := 13) (L' := [_, _, _, _, _]) (st' := [_]) 1 rfl ?_
      by_cases h0 : k = 0
      · skip
        refine jin (pc' := 16) 20 rfl rfl rfl rfl (by rw [zz_ne ⟨by omega, by omega⟩]; exact decide_eq_false (by omega)) ?_
        refine jx (pc' := 30) (L' := [_, _, _, _, _]) (st' := [.int (zI 0)]) 2 rfl ?_
        exact t30 0 (by decide) (by rw [h0, Nat.zero_mul, Nat.add_zero])
      · obtain ⟨k', rfl⟩ : ∃ k', k = k' + 1 := ⟨k - 1, by omega⟩
        have h1 := hr k' (by omega)
        refine jit (pc' := 20) rfl rfl rfl (by rw [zz_ne ⟨by omega, by omega⟩]; exact decide_eq_true (by omega)) ?_
        refine jx (pc' := 22) (L' := [_, _, _, _, _]) (st' := [_, .int (zI 2)]) 2 rfl ?_
        refine jgf (pc' := 25) K.ob rfl rfl rfl rfl rfl ?_
        refine jx (pc' := 28) (L' := [_, _, _, _, _]) (st' := [_, _, .int (zI 2)]) 3 rfl ?_
        try simp (disch := omega) only [kz, kzl0, kzl1, kzb, kzs, zI_add, zI_sub, zI_neg, zI_mul, zL_i, zI_l, zL_add, zL_sub, zL_neg]
        refine jR_u (pc' := 29) k' K rfl rfl (by omega) (by omega)  rfl ?_
        refine jx (pc' := 30) (L' := [_, _, _, _, _]) (st' := [_]) 1 rfl ?_
        try simp (disch := omega) only [kz, kzl0, kzl1, kzb, kzs, zI_add, zI_sub, zI_neg, zI_mul, zL_i, zI_l, zL_add, zL_sub, zL_neg]
        rw [show (2 : Int) * (rl k' : Int) = ((2 * rl k' : Nat) : Int) by push_cast; rfl]
        refine t30 _ (by omega) ?_
        rw [Nat.add_sub_cancel, v10_s, Nat.mul_add, Nat.pow_succ, Nat.add_assoc]
        congr 2
        rw [Nat.mul_comm (10 ^ k') 10, ← Nat.mul_assoc, ← Nat.mul_assoc]
        congr 1
        omega
  refine jx (pc' := 4) (L' := [_, _, _, _, _]) (st' := []) 4 rfl ?_
  try simp (disch := omega) only [kz, kzl0, kzl1, kzb, kzs, zI_add, zI_sub, zI_neg, zI_mul, zL_i, zI_l, zL_add, zL_sub, zL_neg]
  exact loop 130 0 (by omega) h pt last _ hl (fun j hj => by omega) (by rw [v10_0]; simp [v10_0]) K
theorem m_rootDigit {t0 : Int} {two N : Nat} (K : (RI S0 h R V cd dr ra si tr mo ng (130) sz wr il rs pt rl wo tx ou)) (ht0 : t0 = (two : Int)) (htw : two < 100) (hrs : ∀ j, j < 130 → rs j < 10) (hrl : ∀ j, j < 130 → rl j < 10) (hs : v10 rl 130 = sq N) (hr : v10 rs 130 + sq N * sq N = N) (hN : sq N < 10 ^ 120) (q : ∀ h' rs' pt' rl' (d : Nat), d < 10 → 10 * sq N + d = sq (100 * N + two) → (∀ j, j < 130 → rs' j < 10) → (∀ j, j < 130 → rl' j < 10) → v10 rl' 130 = sq (100 * N + two) → v10 rs' 130 + sq (100 * N + two) * sq (100 * N + two) = 100 * N + two → (RI S0 h' R V cd dr ra si tr mo ng (130) sz wr il (rs') (pt') (rl') wo tx ou) → Q (.inl (some (.int (zI (d : Int))))) h') : ix_M 239 [.ref 98, .int (zI t0)] h Q := by
  subst ht0
  obtain ⟨d1, d2⟩ := sq_d N two htw
  have a2 := sq_2 N
  have b1 := sq_1 (100 * N + two)
  have b2 := sq_2 (100 * N + two)
  have e10 := sq_10 (sq N)
  rw [sq_s] at a2 b2
  have p1 : (10 : Nat) ^ 129 = 10 ^ 120 * 1000000000 := by rw [show (129 : Nat) = 120 + 9 from rfl, Nat.pow_add]
  have p2 : (10 : Nat) ^ 130 = 10 ^ 120 * 10000000000 := by rw [show (130 : Nat) = 120 + 10 from rfl, Nat.pow_add]
  have p3 : (10 : Nat) ^ 128 = 10 ^ 120 * 100000000 := by rw [show (128 : Nat) = 120 + 8 from rfl, Nat.pow_add]
  generalize hP : (10 : Nat) ^ 120 = P at *
  have hl129 : v10 rl 129 = sq N := by rw [← hs]; exact (v10_tp (by rw [hs, p1]; omega) (by decide)).symm
  have hr128 : v10 rs 128 = v10 rs 130 := (v10_tp (by rw [p3]; omega) (by decide)).symm
  generalize hN' : 100 * N + two = N' at *
  generalize hS : sq N = S at *
  generalize hS' : sq N' = S' at *
  -- the result grows
  have t85 : ∀ (h1 : ix_H) (f' pt' : Nat → Nat) (l3 : Option Value), (∀ j, j < 130 → f' j < 10) → v10 f' 130 + S' * S' = N' → (RI S0 h1 R V cd dr ra si tr mo ng (130) sz wr il (f') (pt') rl wo tx ou) → ix_E 239 85 [some (.ref 98), some (.int (zI (two : Int))), some (.int (zI ((S' - 10 * S : Nat) : Int))), l3] [] h1 Q := by
    intro h f' pt' l3 hf ef K
    have shift : ∀ n : Nat, n < 130 → ∀ (h1 : ix_H) (g : Nat → Nat), (∀ j, n < j → j < 130 → g j = rl (j - 1)) → (∀ j, j ≤ n → g j = rl j) → (RI S0 h1 R V cd dr ra si tr mo ng (130) sz wr il (f') (pt') (g) wo tx ou) → ix_E 239 92 [some (.ref 98), some (.int (zI (two : Int))), some (.int (zI ((S' - 10 * S : Nat) : Int))), some (.int (zI (n : Int)))] [] h1 Q := by
      intro n
      induction n with
      | zero =>
        intro hn h g h1 h2 K
        refine jx (pc' := 93) (L' := [_, _, _, _]) (st' := [_]) 1 rfl ?_
        refine jit (pc' := 116) rfl rfl rfl (by rw [zz_le ⟨by omega, by omega⟩]; exact decide_eq_true (by omega)) ?_
        refine jx (pc' := 117) (L' := [_, _, _, _]) (st' := [_]) 1 rfl ?_
        refine jgf (pc' := 120) K.ob rfl rfl rfl rfl rfl ?_
        refine jx (pc' := 122) (L' := [_, _, _, _]) (st' := [_, .int (zI 0), _]) 2 rfl ?_
        refine jW_u (pc' := 123) 0 ((S'-10*S)) K (by first | rfl | (congr 1; omega)) rfl rfl (by omega) (by omega)  rfl  fun h K => ?_
        refine jx (pc' := 124) (L' := [_, _, _, _]) (st' := [_]) 1 rfl ?_
        refine jri rfl rfl ?_
        have hv : v10 (va_up g 0 (S' - 10 * S)) (129 + 1) = 10 * v10 rl 129 + (S' - 10 * S) := v10_sh (va_up_self _ _ _) fun j hj => by
          rw [va_up_ne _ _ (by omega), h1 (j + 1) (by omega) (by omega)]
          rfl
        refine q _ f' pt' _ (S' - 10 * S) (by omega) (by omega) hf (fun j hj => ?_) ?_ ef K
        · by_cases z : j = 0
          · rw [z, va_up_self]; omega
          · rw [va_up_ne _ _ z, h1 j (by omega) hj]
            exact hrl _ (by omega)
        · rw [show (130 : Nat) = 129 + 1 from rfl, hv, hl129]
          omega
      | succ n ih =>
        intro hn h g h1 h2 K
        refine jx (pc' := 93) (L' := [_, _, _, _]) (st' := [_]) 1 rfl ?_
        refine jin (pc' := 96) 116 rfl rfl rfl rfl (by rw [zz_le ⟨by omega, by omega⟩]; exact decide_eq_false (by omega)) ?_
        refine jx (pc' := 97) (L' := [_, _, _, _]) (st' := [_]) 1 rfl ?_
        refine jgf (pc' := 100) K.ob rfl rfl rfl rfl rfl ?_
        refine jx (pc' := 102) (L' := [_, _, _, _]) (st' := [_, _, _]) 2 rfl ?_
        refine jgf (pc' := 105) K.ob rfl rfl rfl rfl rfl ?_
        refine jx (pc' := 108) (L' := [_, _, _, _]) (st' := [_, _, _, _]) 3 rfl ?_
        try simp (disch := omega) only [kz, kzl0, kzl1, kzb, kzs, zI_add, zI_sub, zI_neg, zI_mul, zL_i, zI_l, zL_add, zL_sub, zL_neg]
        refine jR_u (pc' := 109) n K rfl rfl (by omega) (by omega)  rfl ?_
        rw [h2 n (by omega)]
        refine jW_u (pc' := 110) ((n+1)) ((rl n)) K (by first | rfl | (congr 1; omega)) rfl rfl (by omega) (by omega)  rfl  fun h K => ?_
        refine jx (pc' := 92) (L' := [_, _, _, _]) (st' := []) 2 rfl ?_
        try simp (disch := omega) only [kz, kzl0, kzl1, kzb, kzs, zI_add, zI_sub, zI_neg, zI_mul, zL_i, zI_l, zL_add, zL_sub, zL_neg]
        rw [show ((n + 1 : Nat) : Int) + -1 = (n : Int) by omega]
        refine ih (by omega) h _ (fun j hj hj2 => ?_) (fun j hj => ?_) K
        · by_cases z : j = n + 1
          · rw [z, va_up_self]; rfl
          · rw [va_up_ne _ _ z]; exact h1 j (by omega) hj2
        · rw [va_up_ne _ _ (by omega)]; exact h2 j (by omega)
    refine jx (pc' := 86) (L' := [_, _, _, _]) (st' := [_]) 1 rfl ?_
    refine jgf (pc' := 89) K.ob rfl rfl rfl rfl rfl ?_
    refine jx (pc' := 92) (L' := [_, _, _, _]) (st' := []) 3 rfl ?_
    try simp (disch := omega) only [kz, kzl0, kzl1, kzb, kzs, zI_add, zI_sub, zI_neg, zI_mul, zL_i, zI_l, zL_add, zL_sub, zL_neg]
    exact shift 129 (by omega) h rl (fun j h1 h2 => by omega) (fun _ _ => rfl) K
  have loop : ∀ n c : Nat, c + n = S' - 10 * S → ∀ (h1 : ix_H) (f' pt' : Nat → Nat), (∀ j, j < 130 → f' j < 10) → (∀ j, j < 130 → pt' j < 10) → v10 pt' 130 = 20 * S + (2 * c + 1) → v10 f' 130 + (10 * S + c) * (10 * S + c) = N' → (RI S0 h1 R V cd dr ra si tr mo ng (130) sz wr il (f') (pt') rl wo tx ou) → ix_E 239 59 [some (.ref 98), some (.int (zI (two : Int))), some (.int (zI (c : Int))), none] [] h1 Q := by
    intro n
    induction n with
    | zero =>
      intro c hc h f' pt' hf hp ep ef K
      have ec : 10 * S + c = S' := by omega
      rw [ec] at ef
      refine jx (pc' := 60) (L' := [_, _, _, _]) (st' := [_]) 1 rfl ?_
      refine jcv (pc' := 63) 224 [] [] K.ob rfl rfl rfl rfl rfl rfl rfl rfl ?_
      refine m_isBelow K (by decide) hf hp (jk ?_)
      refine jit (pc' := 85) rfl rfl rfl (by rw [bz_ne, decide_eq_true (by rw [ep]; omega)]) ?_
      rw [show (c : Int) = ((S' - 10 * S : Nat) : Int) by omega]
      exact t85 h f' pt' _ hf ef K
    | succ n ih =>
      intro c hc h f' pt' hf hp ep ef K
      have hle : (10 * S + (c + 1)) * (10 * S + (c + 1)) ≤ S' * S' := Nat.mul_le_mul (by omega) (by omega)
      have e3 := sq_s (10 * S + c)
      rw [Nat.add_assoc] at e3
      refine jx (pc' := 60) (L' := [_, _, _, _]) (st' := [_]) 1 rfl ?_
      refine jcv (pc' := 63) 224 [] [] K.ob rfl rfl rfl rfl rfl rfl rfl rfl ?_
      refine m_isBelow K (by decide) hf hp (jk ?_)
      refine jin (pc' := 66) 85 rfl rfl rfl rfl (by rw [bz_ne, decide_eq_false (by rw [ep]; omega)]) ?_
      refine jx (pc' := 67) (L' := [_, _, _, _]) (st' := [_]) 1 rfl ?_
      refine jcv (pc' := 70) 225 [] [] K.ob rfl rfl rfl rfl rfl rfl rfl rfl ?_
      refine m_lessen K (by decide) hf hp (by rw [ep]; omega) fun h f2 hf2 e2 K => jk ?_
      rw [ep] at e2
      refine jx (pc' := 79) (L' := [_, _, _, _]) (st' := [_, _]) 7 rfl ?_
      try simp (disch := omega) only [kz, kzl0, kzl1, kzb, kzs, zI_add, zI_sub, zI_neg, zI_mul, zL_i, zI_l, zL_add, zL_sub, zL_neg]
      refine jcv (pc' := 82) 240 [_] [] K.ob rfl rfl rfl rfl rfl rfl rfl rfl ?_
      refine m_layPart (last := 2 * (c + 1) + 1) K (by omega) (by omega) hrl (by rw [hl129, p2]; omega) fun h pt2 hp2 ep2 K => jk ?_
      rw [hl129] at ep2
      refine jx (pc' := 59) (L' := [_, _, _, _]) (st' := []) 1 rfl ?_
      rw [show (c : Int) + 1 = ((c + 1 : Nat) : Int) by omega]
      exact ih (c + 1) (by omega) h f2 pt2 hf2 hp2 ep2 (by omega) K
  have t32 : ∀ (h1 : ix_H) (f' : Nat → Nat), (∀ j, 1 < j → j < 130 → f' j = rs (j - 2)) → (RI S0 h1 R V cd dr ra si tr mo ng (130) sz wr il (f') pt rl wo tx ou) → ∀ l2, ix_E 239 32 [some (.ref 98), some (.int (zI (two : Int))), some (.int (zI l2)), none] [] h1 Q := by
    intro h f' h1 K l2
    refine jx (pc' := 33) (L' := [_, _, _, _]) (st' := [_]) 1 rfl ?_
    refine jgf (pc' := 36) K.ob rfl rfl rfl rfl rfl ?_
    refine jx (pc' := 40) (L' := [_, _, _, _]) (st' := [.int (zI 10), _, .int (zI 1), _]) 3 rfl ?_
    refine jidiv (pc' := 41) rfl rfl (by decide) rfl ?_
    rw [zdiv ⟨by omega, by omega⟩ ⟨by omega, by omega⟩]
    refine jW_e (pc' := 42) 1 ((two/10)) K (by first | rfl | (congr 1; omega)) rfl rfl (by omega) (by omega)  rfl  fun h K => ?_
    refine jx (pc' := 43) (L' := [_, _, _, _]) (st' := [_]) 1 rfl ?_
    refine jgf (pc' := 46) K.ob rfl rfl rfl rfl rfl ?_
    refine jx (pc' := 50) (L' := [_, _, _, _]) (st' := [.int (zI 10), _, .int (zI 0), _]) 3 rfl ?_
    refine jirem (pc' := 51) rfl rfl (by decide) rfl ?_
    rw [zrem ⟨by omega, by omega⟩ ⟨by omega, by omega⟩]
    refine jW_e (pc' := 52) 0 ((two%10)) K (by first | rfl | (congr 1; omega)) rfl rfl (by omega) (by omega)  rfl  fun h K => ?_
    refine jx (pc' := 56) (L' := [_, _, _, _]) (st' := [.int (zI 1), _]) 4 rfl ?_
    try simp (disch := omega) only [kz, kzl0, kzl1, kzb, kzs, zI_add, zI_sub, zI_neg, zI_mul, zL_i, zI_l, zL_add, zL_sub, zL_neg]
    refine jcv (pc' := 59) 240 [.int (zI 1)] [] K.ob rfl rfl rfl rfl rfl rfl rfl rfl ?_
    refine m_layPart (last := 1) K rfl (by decide) hrl (by rw [hl129, p2]; omega) fun h pt2 hp2 ep2 K => jk ?_
    rw [hl129] at ep2
    have hv1 : v10 (va_up (fun j => rs (j - 1)) 0 (two / 10)) (128 + 1) = 10 * v10 rs 128 + two / 10 := v10_sh (va_up_self _ _ _) fun j hj => by
      rw [va_up_ne _ _ (by omega)]
      rfl
    have hv2 : v10 (va_up (va_up f' 1 (two / 10)) 0 (two % 10)) (129 + 1) = 10 * v10 (va_up (fun j => rs (j - 1)) 0 (two / 10)) 129 + two % 10 := v10_sh (va_up_self _ _ _) fun j hj => by
      rw [va_up_ne _ _ (by omega)]
      by_cases z : j = 0
      · rw [z, va_up_self, va_up_self]
      · rw [va_up_ne _ _ (by omega), va_up_ne _ _ z, h1 (j + 1) (by omega) (by omega)]
        rfl
    rw [hv1, hr128] at hv2
    refine loop _ 0 (Nat.zero_add _) h _ pt2 (fun j hj => ?_) hp2 ep2 ?_ K
    · by_cases z : j = 0
      · rw [z, va_up_self]; omega
      · rw [va_up_ne _ _ z]
        by_cases y : j = 1
        · rw [y, va_up_self]; omega
        · rw [va_up_ne _ _ y, h1 j (by omega) hj]
          exact hrs _ (by omega)
    · rw [show (130 : Nat) = 129 + 1 from rfl, hv2, Nat.add_zero, e10]
      omega
  have shift : ∀ n : Nat, n < 129 → ∀ (h1 : ix_H) (f' : Nat → Nat), (∀ j, n + 1 < j → j < 130 → f' j = rs (j - 2)) → (∀ j, j ≤ n + 1 → f' j = rs j) → (RI S0 h1 R V cd dr ra si tr mo ng (130) sz wr il (f') pt rl wo tx ou) → ix_E 239 7 [some (.ref 98), some (.int (zI (two : Int))), some (.int (zI ((n + 1 : Nat) : Int))), none] [] h1 Q := by
    intro n
    induction n with
    | zero =>
      intro hn h f' h1 h2 K
      refine jx (pc' := 9) (L' := [_, _, _, _]) (st' := [.int (zI 1), _]) 2 rfl ?_
      refine jct (pc' := 32) rfl rfl rfl (by rw [zc_le ⟨by omega, by omega⟩ ⟨by omega, by omega⟩]; exact decide_eq_true (by omega)) ?_
      exact t32 h f' (fun j a b => h1 j a b) K _
    | succ n ih =>
      intro hn h f' h1 h2 K
      refine jx (pc' := 9) (L' := [_, _, _, _]) (st' := [.int (zI 1), _]) 2 rfl ?_
      refine jcn (pc' := 12) 32 rfl rfl rfl rfl (by rw [zc_le ⟨by omega, by omega⟩ ⟨by omega, by omega⟩]; exact decide_eq_false (by omega)) ?_
      refine jx (pc' := 13) (L' := [_, _, _, _]) (st' := [_]) 1 rfl ?_
      refine jgf (pc' := 16) K.ob rfl rfl rfl rfl rfl ?_
      refine jx (pc' := 18) (L' := [_, _, _, _]) (st' := [_, _, _]) 2 rfl ?_
      refine jgf (pc' := 21) K.ob rfl rfl rfl rfl rfl ?_
      refine jx (pc' := 24) (L' := [_, _, _, _]) (st' := [_, _, _, _]) 3 rfl ?_
      try simp (disch := omega) only [kz, kzl0, kzl1, kzb, kzs, zI_add, zI_sub, zI_neg, zI_mul, zL_i, zI_l, zL_add, zL_sub, zL_neg]
      refine jR_e (pc' := 25) n K rfl rfl (by omega) (by omega)  rfl ?_
      rw [h2 n (by omega)]
      refine jW_e (pc' := 26) ((n+1+1)) ((rs n)) K (by first | rfl | (congr 1; omega)) rfl rfl (by omega) (by omega)  rfl  fun h K => ?_
      refine jx (pc' := 7) (L' := [_, _, _, _]) (st' := []) 2 rfl ?_
      try simp (disch := omega) only [kz, kzl0, kzl1, kzb, kzs, zI_add, zI_sub, zI_neg, zI_mul, zL_i, zI_l, zL_add, zL_sub, zL_neg]
      rw [show ((n + 1 + 1 : Nat) : Int) + -1 = ((n + 1 : Nat) : Int) by omega]
      refine ih (by omega) h _ (fun j hj hj2 => ?_) (fun j hj => ?_) K
      · by_cases z : j = n + 1 + 1
        · rw [z, va_up_self]; rfl
        · rw [va_up_ne _ _ z]; exact h1 j (by omega) hj2
      · rw [va_up_ne _ _ (by omega)]; exact h2 j (by omega)
  refine jx (pc' := 1) (L' := [_, _, _, _]) (st' := [_]) 1 rfl ?_
  refine jgf (pc' := 4) K.ob rfl rfl rfl rfl rfl ?_
  refine jx (pc' := 7) (L' := [_, _, _, _]) (st' := []) 3 rfl ?_
  try simp (disch := omega) only [kz, kzl0, kzl1, kzb, kzs, zI_add, zI_sub, zI_neg, zI_mul, zL_i, zI_l, zL_add, zL_sub, zL_neg]
  exact shift 128 (by omega) h rs (fun j h1 h2 => by omega) (fun _ _ => rfl) K
theorem m_root (K : (RI S0 h R V cd dr ra si tr mo ng sp sz wr il rs pt rl wo tx ou)) (vA : ValD (R 9)) (hA : (R 9).2.1 < 2) (hdr : dr < 5) (q : ∀ h', (RJ S0 h' (va_up R 8 (roF dr (R 9)).1) cd dr ra (si ||| (roF dr (R 9)).2) tr sz wr tx ou) → Q (.inl none) h') : ix_M 237 [.ref 98, .int (zI 9)] h Q := by
  have bA := Val.b vA
  have cA := Val.c34 vA
  have hsA := swp_b vA.2.1
  have fA := vA.1
  have fb := f3b fA
  have gb := gEb fA
  have hdA := dgs_le cA
  unfold roF at q
  have t87 : (R 9).2.1 = 0 → (∀ h', (RJ S0 h' (va_up R 8 (rr (R 9).1 dr false false (decide (¬ sq (rtM (R 9).2.2.2.1 (R 9).2.2.2.2) * sq (rtM (R 9).2.2.2.1 (R 9).2.2.2.2) = rtM (R 9).2.2.2.1 (R 9).2.2.2.2)) ((R 9).2.2.2.1 / 2) (pV ((R 9).2.2.2.1 / 2 - 40) (sq (rtM (R 9).2.2.2.1 (R 9).2.2.2.2)))).1) cd dr ra (si ||| (rr (R 9).1 dr false false (decide (¬ sq (rtM (R 9).2.2.2.1 (R 9).2.2.2.2) * sq (rtM (R 9).2.2.2.1 (R 9).2.2.2.2) = rtM (R 9).2.2.2.1 (R 9).2.2.2.2)) ((R 9).2.2.2.1 / 2) (pV ((R 9).2.2.2.1 / 2 - 40) (sq (rtM (R 9).2.2.2.1 (R 9).2.2.2.2)))).2) tr sz wr tx ou) → Q (.inl none) h') → ix_E 237 87 [some (.ref 98), some (.int (zI 9)), some (.int (zI (R 9).1)), none, none, none, none] [] h Q := by
    intro hs0 q
    obtain ⟨od, hod⟩ : ∃ od : Nat, (od : Int) = (R 9).2.2.2.1 % 2 := ⟨((R 9).2.2.2.1 % 2).toNat, by omega⟩
    obtain ⟨w, hw⟩ : ∃ w : Nat, (w : Int) = 12500 + (R 9).2.2.2.1 / 2 := ⟨(12500 + (R 9).2.2.2.1 / 2).toNat, by omega⟩
    have hMe : rtM (R 9).2.2.2.1 (R 9).2.2.2.2 = (R 9).2.2.2.2 * 10 ^ (od + 80) := by unfold rtM; rw [← hod, Int.toNat_natCast]
    have hMl : rtM (R 9).2.2.2.1 (R 9).2.2.2.2 < 10 ^ 116 := by
      rw [hMe]
      exact Nat.lt_of_lt_of_le (dgs_sh _ _) (pl (by omega))
    have dM : ∀ p : Nat, rtM (R 9).2.2.2.1 (R 9).2.2.2.2 / 10 ^ p % 10 = atD (R 9).2.2.2.2 ((p : Int) - od - 80) := fun p => by
      rw [hMe, sh_d]
      unfold atD
      by_cases h0 : od + 80 ≤ p
      · rw [if_pos h0, if_neg (by omega), show ((p : Int) - od - 80).toNat = p - (od + 80) by omega]
      · rw [if_neg h0, if_pos (by omega)]
    have hpV : ∀ X : Nat, pV ((R 9).2.2.2.1 / 2 - 40) X = X * 10 ^ (w - 40) := fun X => by
      unfold pV
      rw [show (12500 + ((R 9).2.2.2.1 / 2 - 40)).toNat = w - 40 by omega]
    rw [hpV] at q
    generalize hM : rtM (R 9).2.2.2.1 (R 9).2.2.2.2 = M at *
    have loop : ∀ n i : Nat, i + n = 61 → ∀ (h1 : ix_H) (f' pt' g' : Nat → Nat) (l6 : Option Value), (∀ j, j < 130 → f' j < 10) → (∀ j, j < 130 → g' j < 10) → v10 g' 130 = sq (M / 10 ^ (2 * (61 - i))) → v10 f' 130 + sq (M / 10 ^ (2 * (61 - i))) * sq (M / 10 ^ (2 * (61 - i))) = M / 10 ^ (2 * (61 - i)) → (RI S0 h1 R (sq (M / 10 ^ (2 * (61 - i))) * 10 ^ (w + 21 - i)) cd dr ra si tr (false) (false) (130) sz wr il (f') (pt') (g') wo tx ou) → ix_E 237 163 [some (.ref 98), some (.int (zI 9)), some (.int (zI (R 9).1)), some (.int (zI ((R 9).2.2.2.1 / 2))), some (.int (zI ((R 9).2.2.2.1 % 2))), some (.int (zI (20 - (i : Int)))), l6] [] h1 Q := by
      intro n
      induction n with
      | zero =>
        intro i hi h f' pt' g' l6 hf hg eg ef K
        obtain rfl : i = 61 := by omega
        rw [Nat.sub_self, Nat.mul_zero, Nat.pow_zero, Nat.div_one] at eg ef K
        refine jx (pc' := 167) (L' := [_, _, _, _, _, _, _]) (st' := [.int (zI (-40)), _]) 2 rfl ?_
        refine jct (pc' := 227) rfl rfl rfl (by rw [zc_lt ⟨by omega, by omega⟩ ⟨by omega, by omega⟩]; exact decide_eq_true (by omega)) ?_
        refine jx (pc' := 229) (L' := [_, _, _, _, _, _, _]) (st' := [_, _]) 2 rfl ?_
        refine jcv (pc' := 232) 226 [] [_] K.ob rfl rfl rfl rfl rfl rfl rfl rfl ?_
        refine m_isRest K (by decide) hf (jk ?_)
        have em : decide (¬ v10 f' 130 = 0) = decide (¬ sq M * sq M = M) := by
          clear q K
          generalize sq M * sq M = Y at *
          rw [decide_eq_decide]
          omega
        rw [em]
        refine jp_mo (pc' := 235) ((decide (¬ sq M * sq M = M))) K rfl rfl rfl rfl rfl fun h K => ?_
        refine jx (pc' := 239) (L' := [_, _, _, _, _, _, _]) (st' := [.int (zI 0), _, _, _]) 4 rfl ?_
        refine jcv (pc' := 242) 208 [_, _, .int (zI 0)] [] K.ob rfl rfl rfl rfl rfl rfl rfl rfl ?_
        refine m_roundR (zs := false) (wi := (R 9).2.2.2.1 / 2) (W := sq M * 10 ^ (w - 40)) K (by rw [show w + 21 - 61 = w - 40 by omega]) rfl fA hdr ⟨by omega, by omega⟩ (fun hz => ?_) fun h K => jk ?_
        · refine decide_eq_false fun z => z ?_
          have h1 : sq M = 0 := by
            rcases Nat.mul_eq_zero.mp hz with z | z
            · exact z
            · have := pp0 (w - 40); omega
          have h2 := sq_2 M
          rw [h1] at h2 ⊢
          omega
        · refine ix_qr _ rfl rfl rfl ?_
          exact q _ K
      | succ n ih =>
        intro i hi h f' pt' g' l6 hf hg eg ef K
        have hd1 := div_s M (2 * (61 - (i + 1)) + 1)
        have hd0 := div_s M (2 * (61 - (i + 1)))
        rw [show 2 * (61 - (i + 1)) + 1 + 1 = 2 * (61 - i) by omega] at hd1
        have x1 := dM (2 * (61 - (i + 1)) + 1)
        have x0 := dM (2 * (61 - (i + 1)))
        rw [show ((2 * (61 - (i + 1)) + 1 : Nat) : Int) - od - 80 = 2 * (20 - (i : Int)) + 1 - od by omega] at x1
        rw [show ((2 * (61 - (i + 1)) : Nat) : Int) - od - 80 = 2 * (20 - (i : Int)) - od by omega] at x0
        have b1 := dg_b M (2 * (61 - (i + 1)) + 1)
        have b0 := dg_b M (2 * (61 - (i + 1)))
        have hle : M / 10 ^ (2 * (61 - i)) ≤ M := Nat.div_le_self _ _
        have hsl := sq_le (M / 10 ^ (2 * (61 - i)))
        have h116 : (10 : Nat) ^ 116 ≤ 10 ^ 120 := pl (by decide)
        rw [x1] at hd1 b1
        rw [x0] at hd0 b0
        generalize hX1 : atD (R 9).2.2.2.2 (2 * (20 - (i : Int)) + 1 - od) = X1 at *
        generalize hX0 : atD (R 9).2.2.2.2 (2 * (20 - (i : Int)) - od) = X0 at *
        generalize hNi : M / 10 ^ (2 * (61 - i)) = N at *
        rw [hd1] at hd0
        refine jx (pc' := 167) (L' := [_, _, _, _, _, _, _]) (st' := [.int (zI (-40)), _]) 2 rfl ?_
        refine jcn (pc' := 170) 227 rfl rfl rfl rfl (by rw [zc_lt ⟨by omega, by omega⟩ ⟨by omega, by omega⟩]; exact decide_eq_false (by omega)) ?_
        refine jx (pc' := 184) (L' := [_, _, _, _, _, _, _]) (st' := [_, _, _, .int (zI 10), _]) 11 rfl ?_
        try simp (disch := omega) only [kz, kzl0, kzl1, kzb, kzs, zI_add, zI_sub, zI_neg, zI_mul, zL_i, zI_l, zL_add, zL_sub, zL_neg]
        refine jcv (pc' := 187) 198 [_, _] [.int (zI 10), _] K.ob rfl rfl rfl rfl rfl rfl rfl rfl ?_
        refine m_at K rfl (by decide) ⟨by omega, by omega⟩ (jk ?_)
        rw [← hod, hX1]
        refine jx (pc' := 197) (L' := [_, _, _, _, _, _, _]) (st' := [_, _, _, _, _]) 8 rfl ?_
        try simp (disch := omega) only [kz, kzl0, kzl1, kzb, kzs, zI_add, zI_sub, zI_neg, zI_mul, zL_i, zI_l, zL_add, zL_sub, zL_neg]
        refine jcv (pc' := 200) 198 [_, _] [_, _] K.ob rfl rfl rfl rfl rfl rfl rfl rfl ?_
        refine m_at K rfl (by decide) ⟨by omega, by omega⟩ (jk ?_)
        rw [hX0]
        refine jx (pc' := 201) (L' := [_, _, _, _, _, _, _]) (st' := [_, _]) 1 rfl ?_
        try simp (disch := omega) only [kz, kzl0, kzl1, kzb, kzs, zI_add, zI_sub, zI_neg, zI_mul, zL_i, zI_l, zL_add, zL_sub, zL_neg]
        refine jcv (pc' := 204) 239 [_] [] K.ob rfl rfl rfl rfl rfl rfl rfl rfl ?_
        refine m_rootDigit (two := 10 * X1 + X0) (N := N) K (by push_cast; rfl) (by omega) hf hg eg ef (by omega) fun h rs' pt'' rl' d hd ed hr' hl' el' er' K => jk ?_
        have hN' : M / 10 ^ (2 * (61 - (i + 1))) = 100 * N + (10 * X1 + X0) := by rw [hd0]; omega
        refine jx (pc' := 207) (L' := [_, _, _, _, _, _, _]) (st' := [_]) 2 rfl ?_
        refine jgf (pc' := 210) K.ob rfl rfl rfl rfl rfl ?_
        refine jx (pc' := 220) (L' := [_, _, _, _, _, _, _]) (st' := [_, _, _]) 6 rfl ?_
        try simp (disch := omega) only [kz, kzl0, kzl1, kzb, kzs, zI_add, zI_sub, zI_neg, zI_mul, zL_i, zI_l, zL_add, zL_sub, zL_neg]
        refine jW_r (pc' := 221) ((w+20-i)) d K (by first | rfl | (congr 1; omega)) rfl rfl (by omega) (by omega)  rfl (by omega) fun h K => ?_
        refine jx (pc' := 163) (L' := [_, _, _, _, _, _, _]) (st' := []) 2 rfl ?_
        try simp (disch := omega) only [kz, kzl0, kzl1, kzb, kzs, zI_add, zI_sub, zI_neg, zI_mul, zL_i, zI_l, zL_add, zL_sub, zL_neg]
        rw [show 20 - (i : Int) + -1 = 20 - ((i + 1 : Nat) : Int) by omega, hod]
        refine ih (i + 1) (by omega) h rs' pt'' rl' _ hr' hl' (by rw [hN']; exact el') (by rw [hN']; exact er') ?_
        have e : sd (sq N * 10 ^ (w + 21 - i)) (w + 20 - i) d = sq (M / 10 ^ (2 * (61 - (i + 1)))) * 10 ^ (w + 21 - (i + 1)) := by
          rw [hN', ← ed, show w + 21 - i = w + 20 - i + 1 by omega, show w + 21 - (i + 1) = w + 20 - i by omega]
          unfold sd
          rw [Nat.mul_div_cancel _ (pp0 _), Nat.pow_succ, ← Nat.mul_assoc, Nat.mul_right_comm, Nat.mul_mod_left, Nat.add_mul]
          rw [Nat.mul_comm (sq N) 10, Nat.add_zero]
        rw [← e]
        exact K
    have zer : ∀ n k : Nat, k + n = 130 → ∀ (h1 : ix_H) (f' g' : Nat → Nat), (∀ j, j < k → f' j = 0) → (∀ j, j < k → g' j = 0) → (RI S0 h1 R (0) cd dr ra si tr (false) (false) (130) sz wr il (f') pt (g') wo tx ou) → ix_E 237 128 [some (.ref 98), some (.int (zI 9)), some (.int (zI (R 9).1)), some (.int (zI ((R 9).2.2.2.1 / 2))), some (.int (zI ((R 9).2.2.2.1 % 2))), some (.int (zI (k : Int))), none] [] h1 Q := by
      intro n
      induction n with
      | zero =>
        intro k hk h f' g' h1 h2 K
        obtain rfl : k = 130 := by omega
        refine jx (pc' := 131) (L' := [_, _, _, _, _, _, _]) (st' := [_, _]) 2 rfl ?_
        refine jgf (pc' := 134) K.ob rfl rfl rfl rfl rfl ?_
        refine jct (pc' := 159) rfl rfl rfl (by rfl) ?_
        refine jx (pc' := 163) (L' := [_, _, _, _, _, _, _]) (st' := []) 2 rfl ?_
        try simp (disch := omega) only [kz, kzl0, kzl1, kzb, kzs, zI_add, zI_sub, zI_neg, zI_mul, zL_i, zI_l, zL_add, zL_sub, zL_neg]
        have hz : M / 10 ^ (2 * (61 - 0)) = 0 := Nat.div_eq_of_lt (Nat.lt_of_lt_of_le hMl (pl (by decide)))
        have hq0 : sq 0 = 0 := by have := sq_le 0; omega
        have v0 : ∀ f : Nat → Nat, (∀ j, j < 130 → f j = 0) → v10 f 130 = 0 := fun f hf => by
          rw [v10_cg (g := fun j => 0 / 10 ^ j % 10) (fun j hj => by rw [hf j hj, Nat.zero_div]), v10_of, Nat.zero_mod]
        refine loop 61 0 (by omega) h f' pt g' _ (fun j hj => by rw [h1 j hj]; decide) (fun j hj => by rw [h2 j hj]; decide) ?_ ?_ ?_
        · rw [hz, hq0, v0 g' h2]
        · rw [hz, hq0, v0 f' h1]
        · rw [hz, hq0, Nat.zero_mul]
          exact K
      | succ n ih =>
        intro k hk h f' g' h1 h2 K
        refine jx (pc' := 131) (L' := [_, _, _, _, _, _, _]) (st' := [_, _]) 2 rfl ?_
        refine jgf (pc' := 134) K.ob rfl rfl rfl rfl rfl ?_
        refine jcn (pc' := 137) 159 rfl rfl rfl rfl (by rw [zc_ge ⟨by omega, by omega⟩ ⟨by omega, by omega⟩]; exact decide_eq_false (by omega)) ?_
        refine jx (pc' := 138) (L' := [_, _, _, _, _, _, _]) (st' := [_]) 1 rfl ?_
        refine jgf (pc' := 141) K.ob rfl rfl rfl rfl rfl ?_
        refine jx (pc' := 144) (L' := [_, _, _, _, _, _, _]) (st' := [.int (zI 0), _, _]) 2 rfl ?_
        refine jW_e (pc' := 145) k 0 K (by first | rfl | (congr 1; omega)) rfl rfl (by omega) (by omega)  rfl  fun h K => ?_
        refine jx (pc' := 146) (L' := [_, _, _, _, _, _, _]) (st' := [_]) 1 rfl ?_
        refine jgf (pc' := 149) K.ob rfl rfl rfl rfl rfl ?_
        refine jx (pc' := 152) (L' := [_, _, _, _, _, _, _]) (st' := [.int (zI 0), _, _]) 2 rfl ?_
        refine jW_u (pc' := 153) k 0 K (by first | rfl | (congr 1; omega)) rfl rfl (by omega) (by omega)  rfl  fun h K => ?_
        refine jx (pc' := 128) (L' := [_, _, _, _, _, _, _]) (st' := []) 2 rfl ?_
        try simp (disch := omega) only [kz, kzl0, kzl1, kzb, kzs, zI_add, zI_sub, zI_neg, zI_mul, zL_i, zI_l, zL_add, zL_sub, zL_neg]
        rw [show (k : Int) + 1 = ((k + 1 : Nat) : Int) by omega]
        refine ih (k + 1) (by omega) h _ _ (fun j hj => ?_) (fun j hj => ?_) K
        · by_cases z : j = k
          · rw [z, va_up_self]
          · rw [va_up_ne _ _ z]; exact h1 j (by omega)
        · by_cases z : j = k
          · rw [z, va_up_self]
          · rw [va_up_ne _ _ z]; exact h2 j (by omega)
    refine jx (pc' := 88) (L' := [_, _, _, _, _, _, _]) (st' := [_]) 1 rfl ?_
    refine jcv (pc' := 91) 204 [] [] K.ob rfl rfl rfl rfl rfl rfl rfl rfl ?_
    refine m_empty K fun h K => jk ?_
    refine jx (pc' := 93) (L' := [_, _, _, _, _, _, _]) (st' := [.int (zI 0), _]) 2 rfl ?_
    refine jp_ng (pc' := 96) false K (by first | rfl | (congr 1; omega)) rfl rfl rfl rfl fun h K => ?_
    refine jx (pc' := 97) (L' := [_, _, _, _, _, _, _]) (st' := [_]) 1 rfl ?_
    refine jgf (pc' := 100) K.ob rfl rfl rfl rfl rfl ?_
    refine jx (pc' := 101) (L' := [_, _, _, _, _, _, _]) (st' := [_, _]) 1 rfl ?_
    refine jR_p (pc' := 102) 9 K rfl rfl (by omega) (by omega)  rfl ?_
    refine jcs (pc' := 105) 238 [_] [] rfl rfl rfl rfl rfl rfl rfl rfl ?_
    refine m_halfOf ⟨by omega, by omega⟩ (jk ?_)
    refine jx (pc' := 107) (L' := [_, _, _, _, _, _, _]) (st' := [_]) 2 rfl ?_
    refine jgf (pc' := 110) K.ob rfl rfl rfl rfl rfl ?_
    refine jx (pc' := 111) (L' := [_, _, _, _, _, _, _]) (st' := [_, _]) 1 rfl ?_
    refine jR_p (pc' := 112) 9 K rfl rfl (by omega) (by omega)  rfl ?_
    refine jx (pc' := 122) (L' := [_, _, _, _, _, _, _]) (st' := [.int (zI 130), _]) 7 rfl ?_
    try simp (disch := omega) only [kz, kzl0, kzl1, kzb, kzs, zI_add, zI_sub, zI_neg, zI_mul, zL_i, zI_l, zL_add, zL_sub, zL_neg]
    rw [show (R 9).2.2.2.1 - 2 * ((R 9).2.2.2.1 / 2) = (R 9).2.2.2.1 % 2 by omega]
    refine jp_sp (pc' := 125) 130 K (by first | rfl | (congr 1; omega)) rfl rfl rfl rfl fun h K => ?_
    refine jx (pc' := 128) (L' := [_, _, _, _, _, _, _]) (st' := []) 2 rfl ?_
    try simp (disch := omega) only [kz, kzl0, kzl1, kzb, kzs, zI_add, zI_sub, zI_neg, zI_mul, zL_i, zI_l, zL_add, zL_sub, zL_neg]
    exact zer 130 0 (by omega) h rs rl (fun j hj => by omega) (fun j hj => by omega) K
  refine jx (pc' := 1) (L' := [_, _, _, _, _, _, _]) (st' := [_]) 1 rfl ?_
  refine jgf (pc' := 4) K.ob rfl rfl rfl rfl rfl ?_
  refine jx (pc' := 5) (L' := [_, _, _, _, _, _, _]) (st' := [_, _]) 1 rfl ?_
  refine jR_f (pc' := 6) 9 K rfl rfl (by omega) (by omega)  rfl ?_
  refine jx (pc' := 9) (L' := [_, _, _, _, _, _, _]) (st' := [_, _]) 3 rfl ?_
  refine jcv (pc' := 12) 197 [_] [] K.ob rfl rfl rfl rfl rfl rfl rfl rfl ?_
  refine m_isZero (r := 9) K rfl (by decide) (jk ?_)
  by_cases hz : (R 9).2.1 = 0 ∧ (R 9).2.2.2.2 = 0
  · rw [if_pos hz] at q
    simp only [Nat.or_zero] at q
    refine jin (pc' := 15) 51 rfl rfl rfl rfl (by rw [bz_eq, decide_eq_true hz]; rfl) ?_
    refine jx (pc' := 19) (L' := [_, _, _, _, _, _, _]) (st' := [_, .int (zI 0), _, _]) 4 rfl ?_
    refine jgf (pc' := 22) K.ob rfl rfl rfl rfl rfl ?_
    refine jx (pc' := 23) (L' := [_, _, _, _, _, _, _]) (st' := [_, _, .int (zI 0), _, _]) 1 rfl ?_
    refine jR_m (pc' := 24) 9 K rfl rfl (by omega) (by omega)  rfl ?_
    refine jx (pc' := 25) (L' := [_, _, _, _, _, _, _]) (st' := [_, _, .int (zI 0), _, _]) 1 rfl ?_
    refine jgf (pc' := 28) K.ob rfl rfl rfl rfl rfl ?_
    refine jx (pc' := 29) (L' := [_, _, _, _, _, _, _]) (st' := [_, _, _, .int (zI 0), _, _]) 1 rfl ?_
    refine jR_p (pc' := 30) 9 K rfl rfl (by omega) (by omega)  rfl ?_
    refine jcs (pc' := 33) 238 [_] [_, .int (zI 0), _, _] rfl rfl rfl rfl rfl rfl rfl rfl ?_
    refine m_halfOf ⟨by omega, by omega⟩ (jk ?_)
    refine jx (pc' := 34) (L' := [_, _, _, _, _, _, _]) (st' := [_, _, _, .int (zI 0), _, _]) 1 rfl ?_
    refine jcs (pc' := 37) 179 [_] [_, _, .int (zI 0), _, _] rfl rfl rfl rfl rfl rfl rfl rfl ?_
    refine m_biasOf rfl fA (jk ?_)
    refine jx (pc' := 39) (L' := [_, _, _, _, _, _, _]) (st' := [_, _, _, _, .int (zI 0), _, _]) 2 rfl ?_
    try simp (disch := omega) only [kz, kzl0, kzl1, kzb, kzs, zI_add, zI_sub, zI_neg, zI_mul, zL_i, zI_l, zL_add, zL_sub, zL_neg]
    refine jcs (pc' := 42) 209 [_] [_, _, _, .int (zI 0), _, _] rfl rfl rfl rfl rfl rfl rfl rfl ?_
    refine m_greatestPower rfl fA (jk ?_)
    refine jcs (pc' := 45) 212 [_, _, _] [_, .int (zI 0), _, _] rfl rfl rfl rfl rfl rfl rfl rfl ?_
    refine m_within ⟨by omega, by omega⟩ ⟨by omega, by omega⟩ ⟨by omega, by omega⟩ (jk ?_)
    have hb : ∀ y : Int, y = (if (R 9).2.2.2.1 / 2 < -(fB (R 9).1 : Int) then -(fB (R 9).1 : Int) else if gE (R 9).1 < (R 9).2.2.2.1 / 2 then gE (R 9).1 else (R 9).2.2.2.1 / 2) → -30000 ≤ y ∧ y ≤ 30000 := fun y hy => by
      rw [hy]
      split
      · omega
      · split <;> omega
    refine jcv (pc' := 48) 202 [_, .int (zI 0), _, _] [] K.ob rfl rfl rfl rfl rfl rfl rfl rfl ?_
    refine m_become (s := 0) K rfl rfl fA (by decide) (hb _ rfl) fun h K => jk ?_
    refine jx (pc' := 242) (L' := [_, _, _, _, _, _, _]) (st' := []) 1 rfl ?_
    refine ix_qr _ rfl rfl rfl ?_
    exact q _ K.rj
  · rw [if_neg hz] at q
    refine jit (pc' := 51) rfl rfl rfl (by rw [bz_eq, decide_eq_false hz]; rfl) ?_
    refine jx (pc' := 52) (L' := [_, _, _, _, _, _, _]) (st' := [_]) 1 rfl ?_
    refine jgf (pc' := 55) K.ob rfl rfl rfl rfl rfl ?_
    refine jx (pc' := 56) (L' := [_, _, _, _, _, _, _]) (st' := [_, _]) 1 rfl ?_
    refine jR_m (pc' := 57) 9 K rfl rfl (by omega) (by omega)  rfl ?_
    cases hn : (R 9).2.2.1
    · rw [hn, if_neg (by decide)] at q
      refine jit (pc' := 68) rfl rfl rfl (by rfl) ?_
      refine jx (pc' := 69) (L' := [_, _, _, _, _, _, _]) (st' := [_]) 1 rfl ?_
      refine jgf (pc' := 72) K.ob rfl rfl rfl rfl rfl ?_
      refine jx (pc' := 73) (L' := [_, _, _, _, _, _, _]) (st' := [_, _]) 1 rfl ?_
      refine jR_so (pc' := 74) 9 K rfl rfl (by omega) (by omega)  rfl ?_
      refine jx (pc' := 75) (L' := [_, _, _, _, _, _, _]) (st' := [.int (zI 1), _]) 1 rfl ?_
      by_cases e : (R 9).2.1 = 1
      · have e1 := swp_1.mpr e
        rw [if_pos e] at q
        simp only [Nat.or_zero] at q
        refine jcn (pc' := 78) 87 rfl rfl rfl rfl (by rw [zc_ne ⟨by omega, by omega⟩ ⟨by omega, by omega⟩]; exact decide_eq_false (by omega)) ?_
        refine jx (pc' := 81) (L' := [_, _, _, _, _, _, _]) (st' := [.int (zI 0), _, _]) 3 rfl ?_
        refine jcv (pc' := 84) 203 [_, .int (zI 0)] [] K.ob rfl rfl rfl rfl rfl rfl rfl rfl ?_
        refine m_infinite (b := false) K rfl fA fun h K => jk ?_
        refine jx (pc' := 242) (L' := [_, _, _, _, _, _, _]) (st' := []) 1 rfl ?_
        refine ix_qr _ rfl rfl rfl ?_
        exact q _ K.rj
      · have e1 : ¬ swp (R 9).2.1 = 1 := fun z => e (swp_1.mp z)
        rw [if_neg e] at q
        refine jct (pc' := 87) rfl rfl rfl (by rw [zc_ne ⟨by omega, by omega⟩ ⟨by omega, by omega⟩]; exact decide_eq_true (by omega)) ?_
        exact t87 (by omega) q
    · rw [hn, if_pos rfl] at q
      refine jin (pc' := 60) 68 rfl rfl rfl rfl (by rfl) ?_
      refine jx (pc' := 62) (L' := [_, _, _, _, _, _, _]) (st' := [_, _]) 2 rfl ?_
      refine jcv (pc' := 65) 201 [_] [] K.ob rfl rfl rfl rfl rfl rfl rfl rfl ?_
      refine m_invalid K rfl fA fun h K => jk ?_
      refine jx (pc' := 242) (L' := [_, _, _, _, _, _, _]) (st' := []) 1 rfl ?_
      refine ix_qr _ rfl rfl rfl ?_
      exact q _ K.rj
end REF
