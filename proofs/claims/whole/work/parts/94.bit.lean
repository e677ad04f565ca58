/-! ===== BitPattern: head, encode ===== -/
/-- the highest word without the sign -/
def hdV (d : Dm) (top : Nat) : Nat :=
  if d.2.1 = 1 then 2013265920 else
  if 2 ≤ d.2.1 then (if d.2.1 = 2 then 2113929216 else 2080374784) ||| top else
  if top < 2 ^ (31 - fW d.1) then (d.2.2.2.1 + fB d.1).toNat * 2 ^ (31 - fW d.1) + top else
  1610612736 ||| (d.2.2.2.1 + fB d.1).toNat * 2 ^ (29 - fW d.1) ||| top % 2 ^ (29 - fW d.1)
section BIT
variable {h : ix_H} {Q : ix_O → ix_H → Prop} {S : Nat → AC} {W : Nat → Int32} {top w r : Nat} {d : Dm}
theorem v_head (I : Inv h S) (A : RegD S r d) (ht : top < 2 ^ 31) (q : Q (.inl (some (.int (nI (hdV d top))))) h) : ix_M 89 [.ref r, .int (nI top)] h Q := by
  have A2 := A.2.1
  have vA := A.2.2.2
  have bA := vA.2.2.1
  have hf := vA.1
  obtain ⟨w1, w2, w3, w4⟩ := fWb hf
  obtain ⟨f1, f2, f3, f4, _⟩ := f3b hf
  obtain ⟨g1, g2⟩ := gEb hf
  unfold hdV at q
  refine jx (pc' := 1) (L' := [_, _, _, _]) (st' := [_]) 1 rfl ?_
  refine jcv (pc' := 4) 78 [] [] (I.ob (r := r) A2) rfl rfl rfl rfl rfl rfl rfl rfl ?_
  refine v_isInfinite I A2 vA.2.1 (jk ?_)
  by_cases e1 : d.2.1 = 1
  · rw [if_pos e1] at q
    refine jin (pc' := 7) 10 rfl rfl rfl rfl (by rw [bz_eq]; simp [e1]) ?_
    refine jx (pc' := 9) (L' := [_, _, _, _]) (st' := [_]) 1 rfl ?_
    try simp (disch := omega) only [kl2013265920, nI_add, nI_mul, nI_sub, Nat.zero_mul, Nat.one_mul, Nat.sub_zero, Nat.add_zero, Nat.zero_add, Nat.add_sub_cancel]
    refine jri rfl rfl ?_
    exact q
  · rw [if_neg e1] at q
    refine jit (pc' := 10) rfl rfl rfl (by rw [bz_eq]; simp [e1]) ?_
    refine jx (pc' := 11) (L' := [_, _, _, _]) (st' := [_]) 1 rfl ?_
    refine jcv (pc' := 14) 79 [] [] (I.ob (r := r) A2) rfl rfl rfl rfl rfl rfl rfl rfl ?_
    refine v_isNaN I A2 vA.2.1 (jk ?_)
    by_cases e2 : 2 ≤ d.2.1
    · rw [if_pos e2] at q
      refine jin (pc' := 17) 35 rfl rfl rfl rfl (by rw [bz_eq]; simp [e2]) ?_
      refine jx (pc' := 18) (L' := [_, _, _, _]) (st' := [_]) 1 rfl ?_
      refine jgf (pc' := 21) (I.ob (r := r) A2) rfl rfl rfl rfl rfl ?_
      refine jx (pc' := 22) (L' := [_, _, _, _]) (st' := [.int (nI 2), _]) 1 rfl ?_
      have hs := vA.2.1
      by_cases e3 : d.2.1 = 2
      · rw [if_pos e3] at q
        refine jcn (pc' := 25) 30 rfl rfl rfl rfl (by rw [cc_ne (by omega) (by omega)]; exact decide_eq_false (by omega)) ?_
        refine jx (pc' := 34) (L' := [_, _, _, _]) (st' := [_]) 4 rfl ?_
        try simp (disch := omega) only [kl2113929216, nI_add, nI_mul, nI_sub, Nat.zero_mul, Nat.one_mul, Nat.sub_zero, Nat.add_zero, Nat.zero_add, Nat.add_sub_cancel]
        rw [nI_or]
        refine jri rfl rfl ?_
        exact q
      · rw [if_neg e3] at q
        refine jct (pc' := 30) rfl rfl rfl (by rw [cc_ne (by omega) (by omega)]; exact decide_eq_true (by omega)) ?_
        refine jx (pc' := 34) (L' := [_, _, _, _]) (st' := [_]) 3 rfl ?_
        try simp (disch := omega) only [kl2080374784, nI_add, nI_mul, nI_sub, Nat.zero_mul, Nat.one_mul, Nat.sub_zero, Nat.add_zero, Nat.zero_add, Nat.add_sub_cancel]
        rw [nI_or]
        refine jri rfl rfl ?_
        exact q
    · rw [if_neg e2] at q
      refine jit (pc' := 35) rfl rfl rfl (by rw [bz_eq]; simp [e2]) ?_
      refine jx (pc' := 39) (L' := [_, _, _, _]) (st' := [_, _]) 2 rfl ?_
      refine jgf (pc' := 42) (I.ob (r := r) A2) rfl rfl rfl rfl rfl ?_
      refine jat (pc' := 43) I.tab rfl rfl ⟨by decide, hf⟩ rfl ?_
      rw [tv5 hf]
      refine jx (pc' := 45) (L' := [_, _, _, _]) (st' := [_]) 2 rfl ?_
      refine jgf (pc' := 48) (I.ob (r := r) A2) rfl rfl rfl rfl rfl ?_
      refine jx (pc' := 52) (L' := [_, _, _, _]) (st' := [_, _, _]) 2 rfl ?_
      refine jgf (pc' := 55) (I.ob (r := r) A2) rfl rfl rfl rfl rfl ?_
      refine jat (pc' := 56) I.tab rfl rfl ⟨by decide, hf⟩ rfl ?_
      rw [tv2 hf]
      have eb : zI d.2.2.2.1 + zI (fB d.1) = nI (d.2.2.2.1 + fB d.1).toNat := by
        rw [zI_add, nz]
        congr 1
        omega
      refine jx (pc' := 57) (L' := [_, _, _, _]) (st' := [_]) 1 rfl ?_
      try simp (disch := omega) only [nI_add, nI_mul, nI_sub, Nat.zero_mul, Nat.one_mul, Nat.sub_zero, Nat.add_zero, Nat.zero_add, Nat.add_sub_cancel]
      rw [eb]
      generalize (d.2.2.2.1 + fB d.1).toNat = bi at *
      refine jx (pc' := 65) (L' := [_, _, _, _]) (st' := [_, _]) 7 rfl ?_
      try simp (disch := omega) only [kb31, ki1, nI_add, nI_mul, nI_sub, Nat.zero_mul, Nat.one_mul, Nat.sub_zero, Nat.add_zero, Nat.zero_add, Nat.add_sub_cancel]
      rw [nI_shl 1 (by omega), Nat.one_mul]
      have hpw : 2 ^ (31 - fW d.1) ≤ 2 ^ 23 := Nat.pow_le_pow_right (by decide) (by omega)
      by_cases e4 : top < 2 ^ (31 - fW d.1)
      · rw [if_pos e4] at q
        refine jcn (pc' := 68) 77 rfl rfl rfl rfl (by rw [cc_ge (by omega) (by omega)]; exact decide_eq_false (by omega)) ?_
        refine jx (pc' := 76) (L' := [_, _, _, _]) (st' := [_]) 7 rfl ?_
        try simp (disch := omega) only [kb31, nI_add, nI_mul, nI_sub, Nat.zero_mul, Nat.one_mul, Nat.sub_zero, Nat.add_zero, Nat.zero_add, Nat.add_sub_cancel]
        rw [nI_shl bi (by omega), nI_or, nat_or_add e4]
        refine jri rfl rfl ?_
        exact q
      · rw [if_neg e4] at q
        refine jct (pc' := 77) rfl rfl rfl (by rw [cc_ge (by omega) (by omega)]; exact decide_eq_true (by omega)) ?_
        refine jx (pc' := 91) (L' := [_, _, _, _]) (st' := [_, _, _]) 11 rfl ?_
        try simp (disch := omega) only [kb29, kl1610612736, nI_add, nI_mul, nI_sub, Nat.zero_mul, Nat.one_mul, Nat.sub_zero, Nat.add_zero, Nat.zero_add, Nat.add_sub_cancel]
        rw [nI_shl bi (by omega), nI_or]
        refine jcs (pc' := 94) 90 [_, _] [_] rfl rfl rfl rfl rfl rfl rfl rfl ?_
        refine c_lowBits (by omega) (jk ?_)
        rw [wd_n (by omega)]
        refine jx (pc' := 95) (L' := [_, _, _, _]) (st' := [_]) 1 rfl ?_
        try simp (disch := omega) only [nI_add, nI_mul, nI_sub, Nat.zero_mul, Nat.one_mul, Nat.sub_zero, Nat.add_zero, Nat.zero_add, Nat.add_sub_cancel]
        rw [nI_or]
        refine jri rfl rfl ?_
        exact q
end BIT
