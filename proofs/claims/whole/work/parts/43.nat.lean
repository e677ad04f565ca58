/-! ===== numbers of sixteen limbs: setNines, keepLowest ===== -/
theorem nI_m2 {x y : Nat} (h : x ≤ y) : nI x - nI y = -(nI (y - x)) := by
  have := nI_m (x := x) (y := y) (c := 0) (by omega)
  rw [Nat.add_zero, nI_0] at this
  rw [← this, Int32.sub_zero]
theorem nI_negT {m : Nat} (h : m < 2 ^ 31) : (-(nI m)).toInt = -(m : Int) := by
  rw [Int32.toInt_neg, nI_toInt h]
  simp only [Int.bmod]
  split <;> omega
theorem cn_lt {m k : Nat} (h : m < 2 ^ 31) (hk : k < 2 ^ 31) (h0 : 0 < k) : ix_cc .lt (-(nI m)) (nI k) = true := by
  refine decide_eq_true (Int32.lt_iff_toInt_lt.mpr ?_)
  rw [nI_negT h, nI_toInt hk]
  omega
theorem cn_ge {m k : Nat} (h : m < 2 ^ 31) (hk : k < 2 ^ 31) (h0 : 0 < k) : ix_cc .ge (-(nI m)) (nI k) = false := by
  refine decide_eq_false fun z => ?_
  have := Int32.le_iff_toInt_le.mp z
  rw [nI_negT h, nI_toInt hk] at this
  omega
theorem cn_le {m : Nat} (h : m < 2 ^ 31) : ix_cc .le (-(nI m)) 0 = true := by
  refine decide_eq_true (Int32.le_iff_toInt_le.mpr ?_)
  rw [nI_negT h]
  have e : (0 : Int32).toInt = 0 := by decide
  omega
theorem p10_b (j : Nat) : 1000000000 ^ j = 10 ^ (j * 9) := by
  have := p10_9 j 0
  rw [Nat.add_zero, Nat.pow_zero, Nat.mul_one] at this
  exact this.symm
section NAT
variable {h : ix_H} {Q : ix_O → ix_H → Prop} {a b d e : Nat} {f g : Nat → Nat}
/-- Natural.setNines -/
theorem c_setNines {p : Nat} (A : nt h a d f) (T : ix_tab h) (hp : p ≤ 144) (q : ∀ f' : Nat → Nat, (∀ j, j < 16 → f' j < 1000000000) → vl f' 16 = 10 ^ p - 1 → Q (.inl none) (ix_up h d (cN f'))) : ix_M 66 [.ref a, .int (nI p)] h Q := by
  have loop : ∀ n j : Nat, j + n = 16 → ∀ (t : Option Value) (f' : Nat → Nat), (∀ i, i < 16 → f' i < 1000000000) → vl f' j + 1 = 10 ^ (min p (j * 9)) → ix_E 66 2 [some (.ref a), some (.int (nI p)), some (.int (nI j)), t] [] (ix_up h d (cN f')) Q := by
    intro n
    induction n with
    | zero =>
      intro j hj t f' l hv
      obtain rfl : j = 16 := by omega
      refine jx (pc' := 5) (L' := [_, _, _, _]) (st' := [.int (nI 16), _]) 2 rfl ?_
      refine jct (pc' := 53) rfl rfl rfl (by rw [cc_ge (by omega) (by omega)]; exact decide_eq_true (by omega)) ?_
      refine ix_qr _ rfl rfl rfl ?_
      refine q f' l ?_
      rw [Nat.min_eq_left (by omega)] at hv
      omega
    | succ n ih =>
      intro j hj t f' l hv
      have A' : nt (ix_up h d (cN f')) a d f' := A.nw l
      have T' : ix_tab (ix_up h d (cN f')) := T.up A.2.1.2.1
      have step : ∀ (x : Nat) (w : Option Value), x < 1000000000 → 10 ^ (min p (j * 9)) + x * 1000000000 ^ j = 10 ^ (min p ((j + 1) * 9)) → ix_E 66 46 [some (.ref a), some (.int (nI p)), some (.int (nI j)), w] [.int (nI x), .int (nI j), .ref d] (ix_up h d (cN f')) Q := by
        intro x w hxl hx
        refine jas' (pc' := 47) A.2.1 rfl rfl (by omega) rfl ?_
        refine jx (pc' := 2) (L' := [_, _, _, _]) (st' := []) 2 rfl ?_
        rw [nI_i, upd_nI]
        refine ih (j + 1) (by omega) _ _ (fun i hi => ?_) ?_
        · unfold va_up
          split
          · exact hxl
          · exact l i hi
        · rw [vl_s, vl_up (Nat.le_refl _), va_up_self]
          omega
      rcases Nat.lt_or_ge (j * 9) p with h1 | h1
      · skip
        refine jx (pc' := 5) (L' := [_, _, _, _]) (st' := [.int (nI 16), _]) 2 rfl ?_
        refine jcn (pc' := 8) 53 rfl rfl rfl rfl (by rw [cc_ge (by omega) (by omega)]; exact decide_eq_false (by omega)) ?_
        refine jx (pc' := 16) (L' := [_, _, _, _]) (st' := [_]) 7 rfl ?_
        try simp (disch := omega) only [kb9, nI_add, nI_mul, nI_sub, Nat.zero_mul, Nat.one_mul, Nat.sub_zero, Nat.add_zero, Nat.zero_add, Nat.add_sub_cancel]
        refine jgf (pc' := 19) A'.1 rfl rfl rfl rfl rfl ?_
        refine jx (pc' := 23) (L' := [_, _, _, _]) (st' := [.int (nI 9), _, _, _]) 3 rfl ?_
        rcases Nat.lt_or_ge (p - j * 9) 9 with h2 | h2
        · have ht := p10_lt h2
          refine jct (pc' := 31) rfl rfl rfl (by rw [cc_lt (by omega) (by omega)]; exact decide_eq_true (by omega)) ?_
          refine jx (pc' := 32) (L' := [_, _, _, _]) (st' := [_, _, _]) 1 rfl ?_
          refine jin (pc' := 35) 45 rfl rfl rfl rfl (by rw [cz_le (by omega)]; exact decide_eq_false (by omega)) ?_
          refine jx (pc' := 39) (L' := [_, _, _, _]) (st' := [_, _, _, _]) 2 rfl ?_
          refine jat (pc' := 40) T' rfl rfl ⟨by decide, h2⟩ rfl ?_
          rw [tv4 h2]
          refine jx (pc' := 46) (L' := [_, _, _, _]) (st' := [_, _, _]) 3 rfl ?_
          try simp (disch := omega) only [ki1, nI_add, nI_mul, nI_sub, Nat.zero_mul, Nat.one_mul, Nat.sub_zero, Nat.add_zero, Nat.zero_add, Nat.add_sub_cancel]
          refine step (10 ^ (p - j * 9) - 1) _ (by omega) ?_
          rw [Nat.min_eq_right (by omega), Nat.min_eq_left (by omega), p10_b, Nat.sub_mul, Nat.one_mul, ← Nat.pow_add, show p - j * 9 + j * 9 = p by omega]
          have : 10 ^ (j * 9) ≤ 10 ^ p := Nat.pow_le_pow_right (by decide) (by omega)
          omega
        · skip
          refine jcn (pc' := 26) 31 rfl rfl rfl rfl (by rw [cc_lt (by omega) (by omega)]; exact decide_eq_false (by omega)) ?_
          refine jx (pc' := 46) (L' := [_, _, _, _]) (st' := [_, _, _]) 2 rfl ?_
          try simp (disch := omega) only [kl999999999, nI_add, nI_mul, nI_sub, Nat.zero_mul, Nat.one_mul, Nat.sub_zero, Nat.add_zero, Nat.zero_add, Nat.add_sub_cancel]
          refine step 999999999 _ (by omega) ?_
          rw [Nat.min_eq_right (by omega), Nat.min_eq_right (by omega), p10_b, Nat.add_mul j 1 9, Nat.pow_add]
          omega
      · skip
        refine jx (pc' := 5) (L' := [_, _, _, _]) (st' := [.int (nI 16), _]) 2 rfl ?_
        refine jcn (pc' := 8) 53 rfl rfl rfl rfl (by rw [cc_ge (by omega) (by omega)]; exact decide_eq_false (by omega)) ?_
        refine jx (pc' := 16) (L' := [_, _, _, _]) (st' := [_]) 7 rfl ?_
        try simp (disch := omega) only [kb9, nI_add, nI_mul, nI_sub, Nat.zero_mul, Nat.one_mul, Nat.sub_zero, Nat.add_zero, Nat.zero_add, Nat.add_sub_cancel]
        refine jgf (pc' := 19) A'.1 rfl rfl rfl rfl rfl ?_
        refine jx (pc' := 23) (L' := [_, _, _, _]) (st' := [.int (nI 9), _, _, _]) 3 rfl ?_
        rw [nI_m2 h1]
        refine jct (pc' := 31) rfl rfl rfl (cn_lt (by omega) (by decide) (by decide)) ?_
        refine jx (pc' := 32) (L' := [_, _, _, _]) (st' := [_, _, _]) 1 rfl ?_
        refine jit (pc' := 45) rfl rfl rfl (cn_le (by omega)) ?_
        refine jx (pc' := 46) (L' := [_, _, _, _]) (st' := [.int (nI 0), _, _]) 1 rfl ?_
        refine step 0 _ (by decide) ?_
        rw [Nat.min_eq_left h1, Nat.min_eq_left (by omega), Nat.zero_mul, Nat.add_zero]
  refine jx (pc' := 2) (L' := [_, _, _, _]) (st' := []) 2 rfl ?_
  try simp (disch := omega) only [ki0, nI_add, nI_mul, nI_sub, Nat.zero_mul, Nat.one_mul, Nat.sub_zero, Nat.add_zero, Nat.zero_add, Nat.add_sub_cancel]
  have := loop 16 0 (by omega) none f A.2.2 (by rw [vl_z, Nat.zero_mul, Nat.min_eq_right (Nat.zero_le _)])
  rw [A.2.1.id] at this
  exact this
end NAT
