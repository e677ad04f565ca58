/-! ===== numbers of sixteen limbs: setProduct ===== -/
theorem lc_0 : ix_cc .eq (lg_cmp (lN 0) (lN 0)) 0 = true := by decide
theorem lc_p {c : Nat} (h0 : 0 < c) (h : c < 2 ^ 63) : ix_cc .eq (lg_cmp (lN c) (lN 0)) 0 = false := by
  have h1 : lN c > lN 0 := Int64.lt_iff_toInt_lt.mpr (by rw [lN_t (by omega), lN_t h]; omega)
  have : lg_cmp (lN c) (lN 0) = 1 := by unfold lg_cmp; rw [if_pos h1]
  rw [this]
  decide
section NAT
variable {h : ix_H} {Q : ix_O → ix_H → Prop} {a b c da db d : Nat} {f g w : Nat → Nat}
set_option maxHeartbeats 1000000 in
/-- Natural.setProduct -/
theorem c_setProduct (C : nt h c d w) (A : nt h a da f) (B : nt h b db g) (ha : da ≠ d) (hb : db ≠ d) (hs : vl f 16 * vl g 16 < 1000000000 ^ 16) (q : ∀ f' : Nat → Nat, (∀ j, j < 16 → f' j < 1000000000) → vl f' 16 = vl f 16 * vl g 16 → Q (.inl none) (ix_up h d (cN f'))) : ix_M 61 [.ref c, .ref a, .ref b] h Q := by
  have Cn : ∀ w' : Nat → Nat, (∀ j, j < 16 → w' j < 1000000000) → nt (ix_up h d (cN w')) c d w' ∧ nt (ix_up h d (cN w')) a da f ∧ nt (ix_up h d (cN w')) b db g := fun w' l => ⟨C.nw l, A.up (A.1.ne C.2.1) ha, B.up (B.1.ne C.2.1) hb⟩
  refine jx (pc' := 1) (L' := [_, _, _, _, _, _, _, _, _, _, _]) (st' := [_]) 1 rfl ?_
  refine jcv (pc' := 4) 53 [] [] C.1 rfl rfl rfl rfl rfl rfl rfl rfl ?_
  refine c_clear C fun w0 hw0 => jk ?_
  have l0 : ∀ j, j < 16 → w0 j < 1000000000 := fun j hj => by rw [hw0 j hj]; decide
  obtain ⟨C0, A0, B0⟩ := Cn w0 l0
  refine jx (pc' := 5) (L' := [_, _, _, _, _, _, _, _, _, _, _]) (st' := [_]) 1 rfl ?_
  refine jcv (pc' := 8) 51 [] [] A0.1 rfl rfl rfl rfl rfl rfl rfl rfl ?_
  refine c_used A0 fun ua hua hza hna => jk ?_
  refine jx (pc' := 10) (L' := [_, _, _, _, _, _, _, _, _, _, _]) (st' := [_]) 2 rfl ?_
  refine jcv (pc' := 13) 51 [] [] B0.1 rfl rfl rfl rfl rfl rfl rfl rfl ?_
  refine c_used B0 fun ub hub hzb hnb => jk ?_
  refine jx (pc' := 18) (L' := [_, _, _, _, _, _, _, _, _, _, _]) (st' := []) 3 rfl ?_
  try simp (disch := omega) only [ki0, nI_add, nI_mul, nI_sub, Nat.zero_mul, Nat.one_mul, Nat.sub_zero, Nat.add_zero, Nat.zero_add, Nat.add_sub_cancel]
  have hVb : ∀ k, ub ≤ k → k ≤ 16 → vl g k = vl g 16 := fun k h1 h2 => by
    rw [vl_hi (f := g) (n := 16) (u := k) h2 (fun j h3 h4 => hzb j (by omega) h4)]
  have outer : ∀ n i : Nat, i + n = ua → ∀ (t6 t8 t9 : Option Value) (w' : Nat → Nat), (∀ j, j < 16 → w' j < 1000000000) → vl w' 16 = vl f i * vl g 16 → ix_E 61 18 [some (.ref c), some (.ref a), some (.ref b), some (.int (nI ua)), some (.int (nI ub)), some (.int (nI i)), t6, none, t8, t9, none] [] (ix_up h d (cN w')) Q := by
    intro n
    induction n with
    | zero =>
      intro i hi t6 t8 t9 w' l hv
      obtain rfl : i = ua := by omega
      refine jx (pc' := 21) (L' := [_, _, _, _, _, _, _, _, _, _, _]) (st' := [_, _]) 2 rfl ?_
      refine jct (pc' := 125) rfl rfl rfl (by rw [cc_ge (by omega) (by omega)]; exact decide_eq_true (by omega)) ?_
      refine ix_qr _ rfl rfl rfl ?_
      refine q w' l ?_
      rw [hv, vl_hi (f := f) (n := 16) (u := i) hua hza]
    | succ n ih =>
      intro i hi t6 t8 t9 w' l hv
      have hfi := A.2.2 i (by omega)
      have hfs : vl f (i + 1) ≤ vl f 16 := by
        have := vl_split f (i + 1) (16 - (i + 1))
        rw [show i + 1 + (16 - (i + 1)) = 16 by omega] at this
        omega
      have htot : (vl f i + f i * 1000000000 ^ i) * vl g 16 < 1000000000 ^ 16 := by
        rw [← vl_s]
        exact Nat.lt_of_le_of_lt (Nat.mul_le_mul_right _ hfs) hs
      refine jx (pc' := 21) (L' := [_, _, _, _, _, _, _, _, _, _, _]) (st' := [_, _]) 2 rfl ?_
      refine jcn (pc' := 24) 125 rfl rfl rfl rfl (by rw [cc_ge (by omega) (by omega)]; exact decide_eq_false (by omega)) ?_
      refine jx (pc' := 30) (L' := [_, _, _, _, _, _, _, _, _, _, _]) (st' := []) 4 rfl ?_
      try simp (disch := omega) only [ki0, nI_add, nI_mul, nI_sub, nI_l, lN_i, lN_add, lN_mul, lN_sub, Nat.zero_mul, Nat.one_mul, Nat.sub_zero, Nat.add_zero, Nat.zero_add, Nat.add_sub_cancel]
      have next : ∀ (t6 t8 t9 : Option Value) (w' : Nat → Nat), (∀ j, j < 16 → w' j < 1000000000) → vl w' 16 = vl f i * vl g 16 + f i * vl g 16 * 1000000000 ^ i → ix_E 61 119 [some (.ref c), some (.ref a), some (.ref b), some (.int (nI ua)), some (.int (nI ub)), some (.int (nI i)), t6, none, t8, t9, none] [] (ix_up h d (cN w')) Q := by
        intro t6 t8 t9 w' l hv
        refine jx (pc' := 18) (L' := [_, _, _, _, _, _, _, _, _, _, _]) (st' := []) 2 rfl ?_
        rw [nI_i]
        refine ih (i + 1) (by omega) _ _ _ w' l ?_
        rw [hv, vl_s f i, Nat.add_mul, Nat.mul_right_comm (f i)]
      have inner : ∀ m k cy : Nat, i + k + m = 16 → cy < 1000000000 → ∀ (t9 : Option Value) (w' : Nat → Nat), (∀ j, j < 16 → w' j < 1000000000) → vl w' 16 + cy * 1000000000 ^ (i + k) = vl f i * vl g 16 + f i * vl g k * 1000000000 ^ i → ix_E 61 30 [some (.ref c), some (.ref a), some (.ref b), some (.int (nI ua)), some (.int (nI ub)), some (.int (nI i)), some (.long (lN cy)), none, some (.int (nI k)), t9, none] [] (ix_up h d (cN w')) Q := by
        intro m
        induction m with
        | zero =>
          intro k cy hk hcy t9 w' l hv
          refine jx (pc' := 37) (L' := [_, _, _, _, _, _, _, _, _, _, _]) (st' := [.int (nI 16), _]) 4 rfl ?_
          try simp (disch := omega) only [kb16, nI_add, nI_mul, nI_sub, Nat.zero_mul, Nat.one_mul, Nat.sub_zero, Nat.add_zero, Nat.zero_add, Nat.add_sub_cancel]
          refine jct (pc' := 119) rfl rfl rfl (by rw [cc_ge (by omega) (by omega)]; exact decide_eq_true (by omega)) ?_
          have hle : vl g k ≤ vl g 16 := by
            have := vl_split g k (16 - k)
            rw [show k + (16 - k) = 16 by omega] at this
            omega
          have h1 : f i * vl g k * 1000000000 ^ i ≤ f i * vl g 16 * 1000000000 ^ i := Nat.mul_le_mul_right _ (Nat.mul_le_mul_left _ hle)
          have h2 : (vl f i + f i * 1000000000 ^ i) * vl g 16 = vl f i * vl g 16 + f i * vl g 16 * 1000000000 ^ i := by rw [Nat.add_mul, Nat.mul_right_comm (f i)]
          rw [h2] at htot
          rw [show i + k = 16 by omega] at hv
          have hc0 : cy = 0 := by
            rcases Nat.eq_zero_or_pos cy with z | z
            · exact z
            · have : 1000000000 ^ 16 ≤ cy * 1000000000 ^ 16 := Nat.le_mul_of_pos_left _ z
              omega
          refine next _ _ _ w' l ?_
          rw [hc0, Nat.zero_mul, Nat.add_zero] at hv
          rw [hv]
          congr 1
          rcases Nat.eq_zero_or_pos (f i) with z | z
          · simp [z]
          · have h3 : vl g 16 * 1000000000 ^ i < 1000000000 ^ k * 1000000000 ^ i := by
              rw [← Nat.pow_add, show k + i = 16 by omega]
              have : vl g 16 * 1000000000 ^ i ≤ f i * vl g 16 * 1000000000 ^ i := Nat.mul_le_mul_right _ (Nat.le_mul_of_pos_left _ z)
              omega
            have h4 : vl g 16 < 1000000000 ^ k := Nat.lt_of_mul_lt_mul_right h3
            have h5 := vl_mod (f := g) (n := 16) (k := k) (by omega) B.2.2
            rw [Nat.mod_eq_of_lt h4] at h5
            rw [h5]
        | succ m ihm =>
          intro k cy hk hcy t9 w' l hv
          obtain ⟨C', A', B'⟩ := Cn w' l
          have hgk := B.2.2 k (by omega)
          have hwk := l (i + k) (by omega)
          have hpr : f i * g k ≤ 999999999 * 999999999 := Nat.mul_le_mul (by omega) (by omega)
          have htl : w' (i + k) + f i * g k + cy < 2 ^ 63 := by omega
          have body : ix_E 61 54 [some (.ref c), some (.ref a), some (.ref b), some (.int (nI ua)), some (.int (nI ub)), some (.int (nI i)), some (.long (lN cy)), none, some (.int (nI k)), t9, none] [] (ix_up h d (cN w')) Q := by
            refine jx (pc' := 55) (L' := [_, _, _, _, _, _, _, _, _, _, _]) (st' := [_]) 1 rfl ?_
            refine jgf (pc' := 58) C'.1 rfl rfl rfl rfl rfl ?_
            refine jx (pc' := 63) (L' := [_, _, _, _, _, _, _, _, _, _, _]) (st' := [_, _]) 3 rfl ?_
            try simp (disch := omega) only [nI_add, nI_mul, nI_sub, Nat.zero_mul, Nat.one_mul, Nat.sub_zero, Nat.add_zero, Nat.zero_add, Nat.add_sub_cancel]
            refine jal (pc' := 64) C'.2.1 rfl rfl (by omega) rfl ?_
            refine jx (pc' := 66) (L' := [_, _, _, _, _, _, _, _, _, _, _]) (st' := [_, _]) 2 rfl ?_
            try simp (disch := omega) only [nI_add, nI_mul, nI_sub, nI_l, lN_i, lN_add, lN_mul, lN_sub, Nat.zero_mul, Nat.one_mul, Nat.sub_zero, Nat.add_zero, Nat.zero_add, Nat.add_sub_cancel]
            refine jgf (pc' := 69) A'.1 rfl rfl rfl rfl rfl ?_
            refine jx (pc' := 71) (L' := [_, _, _, _, _, _, _, _, _, _, _]) (st' := [_, _, _]) 1 rfl ?_
            refine jal (pc' := 72) A'.2.1 rfl rfl (by omega) rfl ?_
            refine jx (pc' := 74) (L' := [_, _, _, _, _, _, _, _, _, _, _]) (st' := [_, _, _]) 2 rfl ?_
            try simp (disch := omega) only [nI_add, nI_mul, nI_sub, nI_l, lN_i, lN_add, lN_mul, lN_sub, Nat.zero_mul, Nat.one_mul, Nat.sub_zero, Nat.add_zero, Nat.zero_add, Nat.add_sub_cancel]
            refine jgf (pc' := 77) B'.1 rfl rfl rfl rfl rfl ?_
            refine jx (pc' := 79) (L' := [_, _, _, _, _, _, _, _, _, _, _]) (st' := [_, _, _, _]) 1 rfl ?_
            refine jal (pc' := 80) B'.2.1 rfl rfl (by omega) rfl ?_
            refine jx (pc' := 89) (L' := [_, _, _, _, _, _, _, _, _, _, _]) (st' := [_]) 7 rfl ?_
            try simp (disch := omega) only [nI_add, nI_mul, nI_sub, nI_l, lN_i, lN_add, lN_mul, lN_sub, Nat.zero_mul, Nat.one_mul, Nat.sub_zero, Nat.add_zero, Nat.zero_add, Nat.add_sub_cancel]
            refine jgf (pc' := 92) C'.1 rfl rfl rfl rfl rfl ?_
            refine jx (pc' := 102) (L' := [_, _, _, _, _, _, _, _, _, _, _]) (st' := [_, _, _, _]) 5 rfl ?_
            try simp (disch := omega) only [kL1000000000, nI_add, nI_mul, nI_sub, nI_l, lN_i, lN_add, lN_mul, lN_sub, Nat.zero_mul, Nat.one_mul, Nat.sub_zero, Nat.add_zero, Nat.zero_add, Nat.add_sub_cancel]
            refine jlrem (pc' := 103) rfl rfl (lN_n0 (by decide) (by decide)) rfl ?_
            rw [lN_rem htl (by decide)]
            refine jx (pc' := 104) (L' := [_, _, _, _, _, _, _, _, _, _, _]) (st' := [_, _, _]) 1 rfl ?_
            try simp (disch := omega) only [nI_add, nI_mul, nI_sub, nI_l, lN_i, lN_add, lN_mul, lN_sub, Nat.zero_mul, Nat.one_mul, Nat.sub_zero, Nat.add_zero, Nat.zero_add, Nat.add_sub_cancel]
            refine jas' (pc' := 105) C.2.1 rfl rfl (by omega) rfl ?_
            refine jx (pc' := 110) (L' := [_, _, _, _, _, _, _, _, _, _, _]) (st' := [_, _]) 2 rfl ?_
            try simp (disch := omega) only [kL1000000000, nI_add, nI_mul, nI_sub, nI_l, lN_i, lN_add, lN_mul, lN_sub, Nat.zero_mul, Nat.one_mul, Nat.sub_zero, Nat.add_zero, Nat.zero_add, Nat.add_sub_cancel]
            refine jldiv (pc' := 111) rfl rfl (lN_n0 (by decide) (by decide)) rfl ?_
            rw [lN_div htl (by decide)]
            refine jx (pc' := 30) (L' := [_, _, _, _, _, _, _, _, _, _, _]) (st' := []) 3 rfl ?_
            rw [nI_i, upd_nI]
            refine ihm (k + 1) ((w' (i + k) + f i * g k + cy) / 1000000000) (by omega) (by omega) _ _ (fun j hj => ?_) ?_
            · unfold va_up
              split
              · omega
              · exact l j hj
            · have e1 := vl_set (f := w') (n := 16) (k := i + k) (x := (w' (i + k) + f i * g k + cy) % 1000000000) (by omega)
              have e2 : ((w' (i + k) + f i * g k + cy) % 1000000000) * 1000000000 ^ (i + k) + (w' (i + k) + f i * g k + cy) / 1000000000 * 1000000000 ^ (i + (k + 1)) = w' (i + k) * 1000000000 ^ (i + k) + f i * g k * 1000000000 ^ (i + k) + cy * 1000000000 ^ (i + k) := by
                rw [← Nat.add_assoc, Nat.pow_succ, Nat.mul_comm (1000000000 ^ (i + k)) 1000000000, ← Nat.mul_assoc, ← Nat.add_mul, ← Nat.add_mul, ← Nat.add_mul]
                congr 1
                have := Nat.div_add_mod (w' (i + k) + f i * g k + cy) 1000000000
                omega
              have e3 : f i * vl g (k + 1) * 1000000000 ^ i = f i * vl g k * 1000000000 ^ i + f i * g k * 1000000000 ^ (i + k) := by
                rw [vl_s, Nat.mul_add, Nat.add_mul, Nat.pow_add, Nat.mul_comm (1000000000 ^ i), ← Nat.mul_assoc, ← Nat.mul_assoc]
              rw [e3]
              omega
          refine jx (pc' := 37) (L' := [_, _, _, _, _, _, _, _, _, _, _]) (st' := [.int (nI 16), _]) 4 rfl ?_
          try simp (disch := omega) only [kb16, nI_add, nI_mul, nI_sub, Nat.zero_mul, Nat.one_mul, Nat.sub_zero, Nat.add_zero, Nat.zero_add, Nat.add_sub_cancel]
          refine jcn (pc' := 40) 119 rfl rfl rfl rfl (by rw [cc_ge (by omega) (by omega)]; exact decide_eq_false (by omega)) ?_
          rcases Nat.lt_or_ge k ub with hc | hc
          · skip
            refine jx (pc' := 44) (L' := [_, _, _, _, _, _, _, _, _, _, _]) (st' := [_, _]) 2 rfl ?_
            refine jct (pc' := 54) rfl rfl rfl (by rw [cc_lt (by omega) (by omega)]; exact decide_eq_true (by omega)) ?_
            exact body
          · skip
            refine jx (pc' := 44) (L' := [_, _, _, _, _, _, _, _, _, _, _]) (st' := [_, _]) 2 rfl ?_
            refine jcn (pc' := 47) 54 rfl rfl rfl rfl (by rw [cc_lt (by omega) (by omega)]; exact decide_eq_false (by omega)) ?_
            refine jx (pc' := 51) (L' := [_, _, _, _, _, _, _, _, _, _, _]) (st' := [_]) 3 rfl ?_
            try simp (disch := omega) only [nI_add, nI_mul, nI_sub, nI_l, lN_i, lN_add, lN_mul, lN_sub, Nat.zero_mul, Nat.one_mul, Nat.sub_zero, Nat.add_zero, Nat.zero_add, Nat.add_sub_cancel]
            rcases Nat.eq_zero_or_pos cy with z | z
            · subst z
              refine jit (pc' := 119) rfl rfl rfl (lc_0) ?_
              refine next _ _ _ w' l ?_
              rw [Nat.zero_mul, Nat.add_zero, hVb k hc (by omega)] at hv
              exact hv
            · skip
              refine jin (pc' := 54) 119 rfl rfl rfl rfl (lc_p z (by omega)) ?_
              exact body
      exact inner (16 - i) 0 0 (by omega) (by decide) _ w' l (by rw [vl_z, hv]; simp)
  exact outer ua 0 (by omega) none none none w0 l0 (by rw [vl_z, Nat.zero_mul]; exact vl_0 hw0)
end NAT
