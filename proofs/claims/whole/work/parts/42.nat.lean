/-! ===== numbers of sixteen limbs: shiftDown ===== -/
theorem vl_split (f : Nat → Nat) (k m : Nat) : vl f (k + m) = vl f k + vl (fun j => f (k + j)) m * 1000000000 ^ k := by
  induction m with
  | zero => rw [Nat.add_zero, vl_z, Nat.zero_mul, Nat.add_zero]
  | succ m ih => rw [← Nat.add_assoc, vl_s, ih, vl_s, Nat.add_mul, Nat.mul_assoc, ← Nat.pow_add, Nat.add_comm m k, Nat.add_assoc]
section NAT
variable {h : ix_H} {Q : ix_O → ix_H → Prop} {a b d e : Nat} {f g : Nat → Nat}
/-- Natural.shiftDown -/
theorem c_shiftDown {p : Nat} (A : nt h a d f) (T : ix_tab h) (hp : p < 2 ^ 31) (q : ∀ f' : Nat → Nat, (∀ j, j < 16 → f' j < 1000000000) → vl f' 16 = vl f 16 / 10 ^ p → Q (.inl none) (ix_up h d (cN f'))) : ix_M 64 [.ref a, .int (nI p)] h Q := by
  have hr : p % 9 < 9 := Nat.mod_lt _ (by decide)
  have ht := p10_lt hr
  have hpw : 10 ^ p = 1000000000 ^ (p / 9) * 10 ^ (p % 9) := by
    rw [← p10_9]
    congr 1
    omega
  have hB : ∀ k : Nat, 0 < 1000000000 ^ k := fun k => Nat.pow_pos (by decide)
  rcases Nat.eq_zero_or_pos p with rfl | h0
  · skip
    refine jx (pc' := 1) (L' := [_, _, _, _]) (st' := [_]) 1 rfl ?_
    refine jin (pc' := 4) 5 rfl rfl rfl rfl (by rw [cz_gt (by omega)]; exact decide_eq_false (by omega)) ?_
    refine ix_qr _ rfl rfl rfl ?_
    have := q f A.2.2 (by simp)
    rw [A.2.1.id] at this
    exact this
  have fin : ∀ (t : Option Value) (f' : Nat → Nat), (∀ i, i < 16 → f' i < 1000000000) → vl f' 16 = vl f 16 / 1000000000 ^ (p / 9) → ix_E 64 54 [some (.ref a), some (.int (nI p)), some (.int (nI (p / 9))), t] [] (ix_up h d (cN f')) Q := by
    intro t f' l hv
    have A' : nt (ix_up h d (cN f')) a d f' := A.nw l
    have T' : ix_tab (ix_up h d (cN f')) := T.up A.2.1.2.1
    refine jx (pc' := 61) (L' := [_, _, _, _]) (st' := [.int (nI 9), _, _, _]) 4 rfl ?_
    refine jirem (pc' := 62) rfl rfl (by decide) rfl ?_
    rw [nI_rem hp (by decide)]
    refine jat (pc' := 63) T' rfl rfl ⟨by decide, hr⟩ rfl ?_
    rw [tv4 hr]
    refine jx (pc' := 64) (L' := [_, _, _, _]) (st' := [_, _]) 1 rfl ?_
    try simp (disch := omega) only [nI_add, nI_mul, nI_sub, nI_l, lN_i, lN_add, lN_mul, lN_sub, Nat.zero_mul, Nat.one_mul, Nat.sub_zero, Nat.add_zero, Nat.zero_add, Nat.add_sub_cancel]
    refine jcv (pc' := 67) 50 [_] [] A'.1 rfl rfl rfl rfl rfl rfl rfl rfl ?_
    refine c_divideBy A' (by omega) (by omega) fun f'' r l' hr' hv' => jk ?_
    refine jx (pc' := 68) (L' := [_, _, _, _]) (st' := []) 1 rfl ?_
    refine ix_qr _ rfl rfl rfl ?_
    rw [ix_up_up]
    refine q f'' l' ?_
    rw [hpw, ← Nat.div_div_eq_div_mul, ← hv, hv', Nat.mul_comm, Nat.mul_add_div ht.2, Nat.div_eq_of_lt hr', Nat.add_zero]
  have loop : ∀ n j : Nat, j + n = 16 → ∀ f' : Nat → Nat, (∀ i, i < 16 → f' i < 1000000000) → (∀ i, j ≤ i → f' i = f i) → (∀ i, i < j → f' i = if i + p / 9 < 16 then f (i + p / 9) else 0) → ix_E 64 12 [some (.ref a), some (.int (nI p)), some (.int (nI (p / 9))), some (.int (nI j))] [] (ix_up h d (cN f')) Q := by
    intro n
    induction n with
    | zero =>
      intro j hj f' l hhi hlo
      obtain rfl : j = 16 := by omega
      refine jx (pc' := 15) (L' := [_, _, _, _]) (st' := [.int (nI 16), _]) 2 rfl ?_
      refine jct (pc' := 54) rfl rfl rfl (by rw [cc_ge (by omega) (by omega)]; exact decide_eq_true (by omega)) ?_
      refine fin _ f' l ?_
      rcases Nat.lt_or_ge 16 (p / 9) with z | z
      · have h1 : vl f 16 < 1000000000 ^ (p / 9) := Nat.lt_of_lt_of_le (vl_lt A.2.2) (Nat.pow_le_pow_right (by decide) (by omega))
        rw [Nat.div_eq_of_lt h1]
        exact vl_0 fun j hj => by rw [hlo j hj, if_neg (by omega)]
      · have e1 := vl_split f (p / 9) (16 - p / 9)
        rw [show p / 9 + (16 - p / 9) = 16 by omega] at e1
        have h2 : vl f (p / 9) < 1000000000 ^ (p / 9) := vl_lt fun j hj => A.2.2 j (by omega)
        rw [e1, Nat.add_mul_div_right _ _ (hB _), Nat.div_eq_of_lt h2, Nat.zero_add]
        rw [vl_hi (f := f') (n := 16) (u := 16 - p / 9) (by omega) (fun j h3 h4 => by rw [hlo j h4, if_neg (by omega)])]
        exact vl_cg fun j hj => by rw [hlo j (by omega), if_pos (by omega), Nat.add_comm]
    | succ n ih =>
      intro j hj f' l hhi hlo
      have A' : nt (ix_up h d (cN f')) a d f' := A.nw l
      refine jx (pc' := 15) (L' := [_, _, _, _]) (st' := [.int (nI 16), _]) 2 rfl ?_
      refine jcn (pc' := 18) 54 rfl rfl rfl rfl (by rw [cc_ge (by omega) (by omega)]; exact decide_eq_false (by omega)) ?_
      rcases Nat.eq_zero_or_pos (p / 9) with hk | hk
      · skip
        refine jx (pc' := 19) (L' := [_, _, _, _]) (st' := [_]) 1 rfl ?_
        refine jit (pc' := 54) rfl rfl rfl (by rw [cz_le (by omega)]; exact decide_eq_true (by omega)) ?_
        refine fin _ f' l ?_
        rw [hk, Nat.pow_zero, Nat.div_one]
        refine vl_cg fun i hi => ?_
        rcases Nat.lt_or_ge i j with y | y
        · rw [hlo i y, hk, Nat.add_zero, if_pos hi]
        · exact hhi i y
      · skip
        refine jx (pc' := 19) (L' := [_, _, _, _]) (st' := [_]) 1 rfl ?_
        refine jin (pc' := 22) 54 rfl rfl rfl rfl (by rw [cz_le (by omega)]; exact decide_eq_false (by omega)) ?_
        refine jx (pc' := 23) (L' := [_, _, _, _]) (st' := [_]) 1 rfl ?_
        refine jgf (pc' := 26) A'.1 rfl rfl rfl rfl rfl ?_
        have step : ∀ x : Nat, x = (if j + p / 9 < 16 then f (j + p / 9) else 0) → x < 1000000000 → ix_E 64 47 [some (.ref a), some (.int (nI p)), some (.int (nI (p / 9))), some (.int (nI j))] [.int (nI x), .int (nI j), .ref d] (ix_up h d (cN f')) Q := by
          intro x hx hxl
          refine jas' (pc' := 48) A.2.1 rfl rfl (by omega) rfl ?_
          refine jx (pc' := 12) (L' := [_, _, _, _]) (st' := []) 2 rfl ?_
          rw [nI_i, upd_nI]
          refine ih (j + 1) (by omega) _ (fun i hi => ?_) (fun i hi => ?_) (fun i h1 => ?_)
          · unfold va_up
            split
            · exact hxl
            · exact l i hi
          · rw [va_up_ne _ _ (by omega)]; exact hhi i (by omega)
          · rcases Nat.lt_or_ge i j with y | y
            · rw [va_up_ne _ _ (by omega)]; exact hlo i y
            · obtain rfl : i = j := by omega
              rw [va_up_self, hx]
        refine jx (pc' := 32) (L' := [_, _, _, _]) (st' := [.int (nI 16), _, _, _]) 5 rfl ?_
        try simp (disch := omega) only [kb16, nI_add, nI_mul, nI_sub, Nat.zero_mul, Nat.one_mul, Nat.sub_zero, Nat.add_zero, Nat.zero_add, Nat.add_sub_cancel]
        by_cases hc : j + p / 9 < 16
        · skip
          refine jcn (pc' := 35) 46 rfl rfl rfl rfl (by rw [cc_ge (by omega) (by omega)]; exact decide_eq_false (by omega)) ?_
          refine jx (pc' := 36) (L' := [_, _, _, _]) (st' := [_, _, _]) 1 rfl ?_
          refine jgf (pc' := 39) A'.1 rfl rfl rfl rfl rfl ?_
          refine jx (pc' := 42) (L' := [_, _, _, _]) (st' := [_, _, _, _]) 3 rfl ?_
          try simp (disch := omega) only [nI_add, nI_mul, nI_sub, Nat.zero_mul, Nat.one_mul, Nat.sub_zero, Nat.add_zero, Nat.zero_add, Nat.add_sub_cancel]
          refine jal (pc' := 43) A'.2.1 rfl rfl (by omega) rfl ?_
          rw [hhi _ (by omega)]
          refine jx (pc' := 47) (L' := [_, _, _, _]) (st' := [_, _, _]) 1 rfl ?_
          exact step _ (by rw [if_pos hc]) (A.2.2 _ hc)
        · skip
          refine jct (pc' := 46) rfl rfl rfl (by rw [cc_ge (by omega) (by omega)]; exact decide_eq_true (by omega)) ?_
          refine jx (pc' := 47) (L' := [_, _, _, _]) (st' := [.int (nI 0), _, _]) 1 rfl ?_
          exact step 0 (by rw [if_neg hc]) (by decide)
  refine jx (pc' := 1) (L' := [_, _, _, _]) (st' := [_]) 1 rfl ?_
  refine jit (pc' := 5) rfl rfl rfl (by rw [cz_gt (by omega)]; exact decide_eq_true (by omega)) ?_
  refine jx (pc' := 8) (L' := [_, _, _, _]) (st' := [.int (nI 9), _]) 2 rfl ?_
  refine jidiv (pc' := 9) rfl rfl (by decide) rfl ?_
  rw [nI_div hp (by decide)]
  refine jx (pc' := 12) (L' := [_, _, _, _]) (st' := []) 3 rfl ?_
  try simp (disch := omega) only [ki0, nI_add, nI_mul, nI_sub, Nat.zero_mul, Nat.one_mul, Nat.sub_zero, Nat.add_zero, Nat.zero_add, Nat.add_sub_cancel]
  have := loop 16 0 (by omega) f A.2.2 (fun _ _ => rfl) (fun i h1 => absurd h1 (by omega))
  rw [A.2.1.id] at this
  exact this
end NAT
