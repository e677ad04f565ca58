/-! ===== Divider: guess ===== -/
theorem gs_dec {g f s o t P v W top : Nat} (hv : (f * 1000000000 + s) * P ≤ v) (hW : W < (top * 1000000000 + t + 1) * P) (ht : g * f + o = top) (hc : o * 1000000000 + t < g * s) : W < g * v := by
  have h1 : g * ((f * 1000000000 + s) * P) ≤ g * v := Nat.mul_le_mul_left g hv
  have h2 : top * 1000000000 + t + 1 ≤ g * (f * 1000000000 + s) := by
    rw [← ht, Nat.mul_add, ← Nat.mul_assoc]
    omega
  have h3 : (top * 1000000000 + t + 1) * P ≤ g * (f * 1000000000 + s) * P := Nat.mul_le_mul_right _ h2
  rw [← Nat.mul_assoc] at h1
  omega
theorem gs_ok {g f s o t P v W top : Nat} (hv : v ≤ (f * 1000000000 + s + 1) * P) (hW : (top * 1000000000 + t) * P ≤ W) (ht : (g + 1) * f + o = top) (hg : g ≤ 1000000000) (hf : 1 ≤ f) (hc : (g + 1) * s ≤ o * 1000000000 + t) : g * v ≤ W := by
  have h1 : g * v ≤ g * ((f * 1000000000 + s + 1) * P) := Nat.mul_le_mul_left g hv
  have ht' : top = g * f + f + o := by rw [← ht, Nat.add_mul, Nat.one_mul]
  have hc' : g * s + s ≤ o * 1000000000 + t := by rw [Nat.add_mul, Nat.one_mul] at hc; exact hc
  have h2 : g * (f * 1000000000 + s + 1) ≤ top * 1000000000 + t := by
    rw [Nat.mul_add, Nat.mul_add, ← Nat.mul_assoc, Nat.mul_one, ht']
    omega
  have h3 := Nat.mul_le_mul_right P h2
  rw [← Nat.mul_assoc] at h1
  omega
theorem gs_big {g f o P v W top : Nat} (hv : v ≤ (f + 1) * P) (hW : top * P ≤ W) (ht : (g + 1) * f + o = top) (hg : g ≤ 1000000000) (ho : 1000000000 ≤ o) : g * v ≤ W := by
  have h1 : g * v ≤ g * ((f + 1) * P) := Nat.mul_le_mul_left g hv
  have h2 : g * (f + 1) ≤ top := by
    rw [← ht, Nat.mul_add, Nat.add_mul]
    omega
  have h3 := Nat.mul_le_mul_right P h2
  rw [← Nat.mul_assoc] at h1
  omega
theorem gs_top {q f P v W top : Nat} (hv : f * P ≤ v) (hW : W < (top + 1) * P) (hq : q * v ≤ W) : q * f ≤ top := by
  have h1 : q * (f * P) ≤ q * v := Nat.mul_le_mul_left q hv
  rw [← Nat.mul_assoc] at h1
  have h2 : q * f * P < (top + 1) * P := by omega
  have := Nat.lt_of_mul_lt_mul_right h2
  omega
section DIV
variable {h : ix_H} {Q : ix_O → ix_H → Prop} {S : Nat → AC} {at' n W v : Nat} {R B : Nat → Nat}
/-- Divider.guess: the limb, or one more -/
theorem v_guess (I : Inv h S) (DV : S 44 = aC (cO 2 [.ref 45, .ref 46])) (RR : S 45 = aC (cR R)) (BB : S 46 = aC (cR B)) (hn : 1 ≤ n) (ha : at' + n ≤ 16) (lR : ∀ j, j < 17 → R j < 1000000000) (lB : ∀ j, j < 17 → B j < 1000000000) (hf : 500000000 ≤ B (n - 1)) (s t : Nat) (hs : s = if 1 < n then B (n - 2) else 0) (ht : t = if 1 < at' + n then R (at' + n - 2) else 0) (htop : R (at' + n) ≤ B (n - 1)) (hW0 : 0 < v) (hWv : W < 1000000000 * v) (c0 : W / v * B (n - 1) ≤ R (at' + n) * 1000000000 + R (at' + n - 1)) (c1 : ∀ g o, g * B (n - 1) + o = R (at' + n) * 1000000000 + R (at' + n - 1) → o * 1000000000 + t < g * s → W < g * v) (c2 : ∀ g o, (g + 1) * B (n - 1) + o = R (at' + n) * 1000000000 + R (at' + n - 1) → g < 1000000000 → (g + 1) * s ≤ o * 1000000000 + t → g * v ≤ W) (c3 : ∀ g o, (g + 1) * B (n - 1) + o = R (at' + n) * 1000000000 + R (at' + n - 1) → g ≤ 1000000000 → 1000000000 ≤ o → g * v ≤ W) (q : ∀ g, W / v ≤ g → g ≤ W / v + 1 → Q (.inl (some (.int (nI g)))) h) : ix_M 74 [.ref 44, .int (nI at'), .int (nI n)] h Q := by
  have f1 := lB (n - 1) (by omega)
  have t1 := lR (at' + n) (by omega)
  have t2 := lR (at' + n - 1) (by omega)
  have hst : s < 1000000000 := by rw [hs]; split; exact lB _ (by omega); decide
  have htt : t < 1000000000 := by rw [ht]; split; exact lR _ (by omega); decide
  have hqb : W / v < 1000000000 := (Nat.div_lt_iff_lt_mul hW0).mpr hWv
  have D1 : ∀ g, W < g * v → W / v < g := fun g hg => (Nat.div_lt_iff_lt_mul hW0).mpr hg
  have D2 : ∀ g, g * v ≤ W → g ≤ W / v := fun g hg => (Nat.le_div_iff_mul_le hW0).mpr hg
  generalize W / v = qq at *
  have RI := I.ia RR
  have BI := I.ia BB
  generalize hF : B (n - 1) = f at *
  generalize hT : R (at' + n) * 1000000000 + R (at' + n - 1) = top at *
  have htopb : top ≤ f * 1000000000 + 999999999 := by omega
  have htl : top < 2 ^ 63 := by omega
  have fin : ∀ (g : Nat) (l1 l2 l3 l4 l5 l6 l7 l8 l9 l10 l11 l13 l14 l15 : Option Value), g ≤ 1000000001 → qq ≤ g → g ≤ qq + 1 → ix_E 74 167 [l1, l2, l3, l4, l5, l6, l7, l8, l9, l10, l11, some (.long (lN g)), l13, l14, none, l15] [] h Q := by
    intro g l1 l2 l3 l4 l5 l6 l7 l8 l9 l10 l11 l13 l14 l15 hg h1 h2
    refine jx (pc' := 170) (L' := [_, _, _, _, _, _, _, _, _, _, _, _, _, _, _, _]) (st' := [_]) 2 rfl ?_
    try simp (disch := omega) only [nI_add, nI_mul, nI_sub, nI_l, lN_i, lN_add, lN_mul, lN_sub, Nat.zero_mul, Nat.one_mul, Nat.sub_zero, Nat.add_zero, Nat.zero_add, Nat.add_sub_cancel]
    refine jri rfl rfl ?_
    exact q g h1 h2
  have loop : ∀ (k turn g o : Nat), turn + k = 2 → g * f + o = top → qq ≤ g → g ≤ 1000000001 → turn * f ≤ o → o < 3000000000 → ∀ x y : Int64, ix_E 74 104 [some (.ref 44), some (.int (nI at')), some (.int (nI n)), some (.long (lN f)), none, some (.long (lN s)), none, some (.long (lN t)), none, some (.long (lN top)), none, some (.long (lN g)), none, some (.long (lN o)), none, some (.int (nI turn))] [] h Q := by
    intro k
    induction k with
    | zero =>
      intro turn g o hk hgo h1 h2 h3 h4 x y
      obtain rfl : turn = 2 := by omega
      have hbig : 1000000000 ≤ o := by omega
      have hgq : g ≤ qq + 1 := by
        cases g with
        | zero => omega
        | succ g =>
          have := D2 _ (c3 g o hgo (by omega) hbig)
          omega
      refine jx (pc' := 107) (L' := [_, _, _, _, _, _, _, _, _, _, _, _, _, _, _, _]) (st' := [.int (nI 3), _]) 2 rfl ?_
      refine jcn (pc' := 110) 167 rfl rfl rfl rfl (by rw [cc_ge (by omega) (by omega)]; exact decide_eq_false (by omega)) ?_
      refine jx (pc' := 116) (L' := [_, _, _, _, _, _, _, _, _, _, _, _, _, _, _, _]) (st' := [_]) 3 rfl ?_
      try simp (disch := omega) only [kL1000000000, nI_add, nI_mul, nI_sub, nI_l, lN_i, lN_add, lN_mul, lN_sub, Nat.zero_mul, Nat.one_mul, Nat.sub_zero, Nat.add_zero, Nat.zero_add, Nat.add_sub_cancel]
      simp only [lz]
      refine jit (pc' := 167) rfl rfl rfl (by rw [zl_ge ⟨by omega, by omega⟩ ⟨by omega, by omega⟩]; exact decide_eq_true (by omega)) ?_
      simp only [← lz]
      exact fin g _ _ _ _ _ _ _ _ _ _ _ _ _ _ h2 h1 hgq
    | succ k ih =>
      intro turn g o hk hgo h1 h2 h3 h4 x y
      have dec : qq < g → o < 1000000000 → ix_E 74 149 [some (.ref 44), some (.int (nI at')), some (.int (nI n)), some (.long (lN f)), none, some (.long (lN s)), none, some (.long (lN t)), none, some (.long (lN top)), none, some (.long (lN g)), none, some (.long (lN o)), none, some (.int (nI turn))] [] h Q := by
        intro hlt hob
        obtain ⟨g, rfl⟩ : ∃ g', g = g' + 1 := ⟨g - 1, by omega⟩
        refine jx (pc' := 104) (L' := [_, _, _, _, _, _, _, _, _, _, _, _, _, _, _, _]) (st' := []) 10 rfl ?_
        try simp (disch := omega) only [nI_add, nI_mul, nI_sub, nI_l, lN_i, lN_add, lN_mul, lN_sub, Nat.zero_mul, Nat.one_mul, Nat.sub_zero, Nat.add_zero, Nat.zero_add, Nat.add_sub_cancel]
        rw [show lN (g + 1) - Int64.ofNat ((1 : Fin 2) : Nat) = lN g from by rw [show Int64.ofNat ((1 : Fin 2) : Nat) = lN 1 from rfl, lN_sub (by omega)]; rfl, nI_i]
        refine ih (turn + 1) g (o + f) (by omega) ?_ (by omega) (by omega) ?_ (by omega) x y
        · rw [← hgo, Nat.add_mul]; omega
        · rw [Nat.add_mul]; omega
      refine jx (pc' := 107) (L' := [_, _, _, _, _, _, _, _, _, _, _, _, _, _, _, _]) (st' := [.int (nI 3), _]) 2 rfl ?_
      refine jcn (pc' := 110) 167 rfl rfl rfl rfl (by rw [cc_ge (by omega) (by omega)]; exact decide_eq_false (by omega)) ?_
      refine jx (pc' := 116) (L' := [_, _, _, _, _, _, _, _, _, _, _, _, _, _, _, _]) (st' := [_]) 3 rfl ?_
      try simp (disch := omega) only [kL1000000000, nI_add, nI_mul, nI_sub, nI_l, lN_i, lN_add, lN_mul, lN_sub, Nat.zero_mul, Nat.one_mul, Nat.sub_zero, Nat.add_zero, Nat.zero_add, Nat.add_sub_cancel]
      by_cases hob : o < 1000000000
      · skip
        refine jin (pc' := 119) 167 rfl rfl rfl rfl (by rw [lz, lz, zl_ge ⟨by omega, by omega⟩ ⟨by omega, by omega⟩]; exact decide_eq_false (by omega)) ?_
        refine jx (pc' := 125) (L' := [_, _, _, _, _, _, _, _, _, _, _, _, _, _, _, _]) (st' := [_]) 3 rfl ?_
        try simp (disch := omega) only [kL1000000000, nI_add, nI_mul, nI_sub, nI_l, lN_i, lN_add, lN_mul, lN_sub, Nat.zero_mul, Nat.one_mul, Nat.sub_zero, Nat.add_zero, Nat.zero_add, Nat.add_sub_cancel]
        by_cases hgb : g < 1000000000
        · skip
          refine jin (pc' := 128) 149 rfl rfl rfl rfl (by rw [lz, lz, zl_ge ⟨by omega, by omega⟩ ⟨by omega, by omega⟩]; exact decide_eq_false (by omega)) ?_
          have hm1 : g * s ≤ 999999999 * 999999999 := Nat.mul_le_mul (by omega) (by omega)
          refine jx (pc' := 143) (L' := [_, _, _, _, _, _, _, _, _, _, _, _, _, _, _, _]) (st' := [_]) 9 rfl ?_
          try simp (disch := omega) only [kL1000000000, nI_add, nI_mul, nI_sub, nI_l, lN_i, lN_add, lN_mul, lN_sub, Nat.zero_mul, Nat.one_mul, Nat.sub_zero, Nat.add_zero, Nat.zero_add, Nat.add_sub_cancel]
          by_cases hgs : o * 1000000000 + t < g * s
          · skip
            refine jit (pc' := 149) rfl rfl rfl (by rw [lz, lz, zl_gt ⟨by omega, by omega⟩ ⟨by omega, by omega⟩]; exact decide_eq_true (by omega)) ?_
            exact dec (D1 _ (c1 g o hgo hgs)) hob
          · skip
            refine jin (pc' := 146) 149 rfl rfl rfl rfl (by rw [lz, lz, zl_gt ⟨by omega, by omega⟩ ⟨by omega, by omega⟩]; exact decide_eq_false (by omega)) ?_
            refine jx (pc' := 167) (L' := [_, _, _, _, _, _, _, _, _, _, _, _, _, _, _, _]) (st' := []) 1 rfl ?_
            refine fin g _ _ _ _ _ _ _ _ _ _ _ _ _ _ h2 h1 ?_
            cases g with
            | zero => omega
            | succ g =>
              have := D2 _ (c2 g o hgo (by omega) (by omega))
              omega
        · skip
          refine jit (pc' := 149) rfl rfl rfl (by rw [lz, lz, zl_ge ⟨by omega, by omega⟩ ⟨by omega, by omega⟩]; exact decide_eq_true (by omega)) ?_
          exact dec (by omega) hob
      · skip
        refine jit (pc' := 167) rfl rfl rfl (by rw [lz, lz, zl_ge ⟨by omega, by omega⟩ ⟨by omega, by omega⟩]; exact decide_eq_true (by omega)) ?_
        refine fin g _ _ _ _ _ _ _ _ _ _ _ _ _ _ h2 h1 ?_
        cases g with
        | zero => omega
        | succ g =>
          have := D2 _ (c3 g o hgo (by omega) (by omega))
          omega
  have t3 : ix_E 74 60 [some (.ref 44), some (.int (nI at')), some (.int (nI n)), some (.long (lN f)), none, some (.long (lN s)), none, none, none, none, none, none, none, none, none, none] [.long (lN t)] h Q := by
    refine jx (pc' := 63) (L' := [_, _, _, _, _, _, _, _, _, _, _, _, _, _, _, _]) (st' := [_]) 2 rfl ?_
    refine jgf (pc' := 66) (I.ob (r := 44) DV) rfl rfl rfl rfl rfl ?_
    refine jx (pc' := 69) (L' := [_, _, _, _, _, _, _, _, _, _, _, _, _, _, _, _]) (st' := [_, _]) 3 rfl ?_
    try simp (disch := omega) only [nI_add, nI_mul, nI_sub, Nat.zero_mul, Nat.one_mul, Nat.sub_zero, Nat.add_zero, Nat.zero_add, Nat.add_sub_cancel]
    refine jal (pc' := 70) RI rfl rfl (by omega) rfl ?_
    refine jx (pc' := 76) (L' := [_, _, _, _, _, _, _, _, _, _, _, _, _, _, _, _]) (st' := [_, _]) 4 rfl ?_
    try simp (disch := omega) only [kL1000000000, nI_add, nI_mul, nI_sub, nI_l, lN_i, lN_add, lN_mul, lN_sub, Nat.zero_mul, Nat.one_mul, Nat.sub_zero, Nat.add_zero, Nat.zero_add, Nat.add_sub_cancel]
    refine jgf (pc' := 79) (I.ob (r := 44) DV) rfl rfl rfl rfl rfl ?_
    refine jx (pc' := 84) (L' := [_, _, _, _, _, _, _, _, _, _, _, _, _, _, _, _]) (st' := [_, _, _]) 5 rfl ?_
    try simp (disch := omega) only [ki1, nI_add, nI_mul, nI_sub, Nat.zero_mul, Nat.one_mul, Nat.sub_zero, Nat.add_zero, Nat.zero_add, Nat.add_sub_cancel]
    refine jal (pc' := 85) RI rfl rfl (by omega) rfl ?_
    refine jx (pc' := 92) (L' := [_, _, _, _, _, _, _, _, _, _, _, _, _, _, _, _]) (st' := [_, _]) 5 rfl ?_
    try simp (disch := omega) only [nI_add, nI_mul, nI_sub, nI_l, lN_i, lN_add, lN_mul, lN_sub, Nat.zero_mul, Nat.one_mul, Nat.sub_zero, Nat.add_zero, Nat.zero_add, Nat.add_sub_cancel]
    rw [hT]
    refine jldiv (pc' := 93) rfl rfl (lN_n0 (by omega) (by omega)) rfl ?_
    rw [lN_div htl (by omega)]
    refine jx (pc' := 98) (L' := [_, _, _, _, _, _, _, _, _, _, _, _, _, _, _, _]) (st' := [_, _]) 3 rfl ?_
    refine jlrem (pc' := 99) rfl rfl (lN_n0 (by omega) (by omega)) rfl ?_
    rw [lN_rem htl (by omega)]
    refine jx (pc' := 104) (L' := [_, _, _, _, _, _, _, _, _, _, _, _, _, _, _, _]) (st' := []) 3 rfl ?_
    try simp (disch := omega) only [ki0, nI_add, nI_mul, nI_sub, Nat.zero_mul, Nat.one_mul, Nat.sub_zero, Nat.add_zero, Nat.zero_add, Nat.add_sub_cancel]
    have hdm := Nat.div_add_mod top f
    have hml : top % f < f := Nat.mod_lt _ (by omega)
    refine loop 2 0 (top / f) (top % f) (by omega) (by rw [Nat.mul_comm]; exact hdm) ((Nat.le_div_iff_mul_le (by omega)).mpr c0) ?_ (by omega) (by omega) 0 0
    have : top / f < 1000000002 := (Nat.div_lt_iff_lt_mul (by omega)).mpr (by omega)
    omega
  have t2 : ix_E 74 36 [some (.ref 44), some (.int (nI at')), some (.int (nI n)), some (.long (lN f)), none, none, none, none, none, none, none, none, none, none, none, none] [.long (lN s)] h Q := by
    refine jx (pc' := 42) (L' := [_, _, _, _, _, _, _, _, _, _, _, _, _, _, _, _]) (st' := [.int (nI 1), _]) 5 rfl ?_
    try simp (disch := omega) only [ki1, nI_add, nI_mul, nI_sub, Nat.zero_mul, Nat.one_mul, Nat.sub_zero, Nat.add_zero, Nat.zero_add, Nat.add_sub_cancel]
    by_cases h1 : 1 < at' + n
    · rw [if_pos h1] at ht
      refine jcn (pc' := 45) 59 rfl rfl rfl rfl (by rw [cc_le (by omega) (by omega)]; exact decide_eq_false (by omega)) ?_
      refine jx (pc' := 46) (L' := [_, _, _, _, _, _, _, _, _, _, _, _, _, _, _, _]) (st' := [_]) 1 rfl ?_
      refine jgf (pc' := 49) (I.ob (r := 44) DV) rfl rfl rfl rfl rfl ?_
      refine jx (pc' := 54) (L' := [_, _, _, _, _, _, _, _, _, _, _, _, _, _, _, _]) (st' := [_, _]) 5 rfl ?_
      try simp (disch := omega) only [ki2, nI_add, nI_mul, nI_sub, Nat.zero_mul, Nat.one_mul, Nat.sub_zero, Nat.add_zero, Nat.zero_add, Nat.add_sub_cancel]
      refine jal (pc' := 55) RI rfl rfl (by omega) rfl ?_
      rw [← ht]
      refine jx (pc' := 60) (L' := [_, _, _, _, _, _, _, _, _, _, _, _, _, _, _, _]) (st' := [_]) 2 rfl ?_
      try simp (disch := omega) only [nI_add, nI_mul, nI_sub, nI_l, lN_i, lN_add, lN_mul, lN_sub, Nat.zero_mul, Nat.one_mul, Nat.sub_zero, Nat.add_zero, Nat.zero_add, Nat.add_sub_cancel]
      exact t3
    · rw [if_neg h1] at ht
      refine jct (pc' := 59) rfl rfl rfl (by rw [cc_le (by omega) (by omega)]; exact decide_eq_true (by omega)) ?_
      refine jx (pc' := 60) (L' := [_, _, _, _, _, _, _, _, _, _, _, _, _, _, _, _]) (st' := [.long (lN 0)]) 1 rfl ?_
      rw [ht] at t3
      exact t3
  refine jx (pc' := 1) (L' := [_, _, _, _, _, _, _, _, _, _, _, _, _, _, _, _]) (st' := [_]) 1 rfl ?_
  refine jgf (pc' := 4) (I.ob (r := 44) DV) rfl rfl rfl rfl rfl ?_
  refine jx (pc' := 7) (L' := [_, _, _, _, _, _, _, _, _, _, _, _, _, _, _, _]) (st' := [_, _]) 3 rfl ?_
  try simp (disch := omega) only [ki1, nI_add, nI_mul, nI_sub, Nat.zero_mul, Nat.one_mul, Nat.sub_zero, Nat.add_zero, Nat.zero_add, Nat.add_sub_cancel]
  refine jal (pc' := 8) BI rfl rfl (by omega) rfl ?_
  rw [hF]
  refine jx (pc' := 13) (L' := [_, _, _, _, _, _, _, _, _, _, _, _, _, _, _, _]) (st' := [_]) 5 rfl ?_
  try simp (disch := omega) only [nI_add, nI_mul, nI_sub, nI_l, lN_i, lN_add, lN_mul, lN_sub, Nat.zero_mul, Nat.one_mul, Nat.sub_zero, Nat.add_zero, Nat.zero_add, Nat.add_sub_cancel]
  refine jit (pc' := 18) rfl rfl rfl (by rw [lz, show Int64.ofNat ((0 : Fin 2) : Nat) = zL 0 from by decide, zl_ne ⟨by omega, by omega⟩ ⟨by omega, by omega⟩]; exact decide_eq_true (by omega)) ?_
  refine jx (pc' := 20) (L' := [_, _, _, _, _, _, _, _, _, _, _, _, _, _, _, _]) (st' := [.int (nI 1), _]) 2 rfl ?_
  by_cases h1 : 1 < n
  · rw [if_pos h1] at hs
    refine jcn (pc' := 23) 35 rfl rfl rfl rfl (by rw [cc_le (by omega) (by omega)]; exact decide_eq_false (by omega)) ?_
    refine jx (pc' := 24) (L' := [_, _, _, _, _, _, _, _, _, _, _, _, _, _, _, _]) (st' := [_]) 1 rfl ?_
    refine jgf (pc' := 27) (I.ob (r := 44) DV) rfl rfl rfl rfl rfl ?_
    refine jx (pc' := 30) (L' := [_, _, _, _, _, _, _, _, _, _, _, _, _, _, _, _]) (st' := [_, _]) 3 rfl ?_
    try simp (disch := omega) only [ki2, nI_add, nI_mul, nI_sub, Nat.zero_mul, Nat.one_mul, Nat.sub_zero, Nat.add_zero, Nat.zero_add, Nat.add_sub_cancel]
    refine jal (pc' := 31) BI rfl rfl (by omega) rfl ?_
    rw [← hs]
    refine jx (pc' := 36) (L' := [_, _, _, _, _, _, _, _, _, _, _, _, _, _, _, _]) (st' := [_]) 2 rfl ?_
    try simp (disch := omega) only [nI_add, nI_mul, nI_sub, nI_l, lN_i, lN_add, lN_mul, lN_sub, Nat.zero_mul, Nat.one_mul, Nat.sub_zero, Nat.add_zero, Nat.zero_add, Nat.add_sub_cancel]
    exact t2
  · rw [if_neg h1] at hs
    refine jct (pc' := 35) rfl rfl rfl (by rw [cc_le (by omega) (by omega)]; exact decide_eq_true (by omega)) ?_
    refine jx (pc' := 36) (L' := [_, _, _, _, _, _, _, _, _, _, _, _, _, _, _, _]) (st' := [.long (lN 0)]) 1 rfl ?_
    rw [hs] at t2
    exact t2
end DIV
