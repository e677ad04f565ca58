/-! ===== numbers of sixteen limbs: shiftUp ===== -/
section NAT
variable {h : ix_H} {Q : ix_O → ix_H → Prop} {a b d e : Nat} {f g : Nat → Nat}
/-- Natural.shiftUp -/
theorem c_shiftUp {p : Nat} (A : nt h a d f) (T : ix_tab h) (hp : p < 2 ^ 31) (hs : vl f 16 * 10 ^ p < 1000000000 ^ 16) (q : ∀ f' : Nat → Nat, (∀ j, j < 16 → f' j < 1000000000) → vl f' 16 = vl f 16 * 10 ^ p → Q (.inl none) (ix_up h d (cN f'))) : ix_M 56 [.ref a, .int (nI p)] h Q := by
  have hr : p % 9 < 9 := Nat.mod_lt _ (by decide)
  have ht := p10_lt hr
  have hpw : 10 ^ p = 1000000000 ^ (p / 9) * 10 ^ (p % 9) := by
    rw [← p10_9]
    congr 1
    omega
  rcases Nat.eq_zero_or_pos p with rfl | h0
  · skip
    refine jx (pc' := 1) (L' := [_, _, _, _]) (st' := [_]) 1 rfl ?_
    refine jin (pc' := 4) 5 rfl rfl rfl rfl (by rw [cz_gt (by omega)]; exact decide_eq_false (by omega)) ?_
    refine ix_qr _ rfl rfl rfl ?_
    have := q f A.2.2 (by simp)
    rw [A.2.1.id] at this
    exact this
  have fin : ∀ (t : Option Value) (f' : Nat → Nat), (∀ i, i < 16 → f' i < 1000000000) → vl f' 16 = vl f 16 * 1000000000 ^ (p / 9) → ix_E 56 50 [some (.ref a), some (.int (nI p)), some (.int (nI (p / 9))), t] [] (ix_up h d (cN f')) Q := by
    intro t f' l hv
    have A' : nt (ix_up h d (cN f')) a d f' := A.nw l
    have T' : ix_tab (ix_up h d (cN f')) := T.up A.2.1.2.1
    refine jx (pc' := 57) (L' := [_, _, _, _]) (st' := [.int (nI 9), _, _, _]) 4 rfl ?_
    refine jirem (pc' := 58) rfl rfl (by decide) rfl ?_
    rw [nI_rem hp (by decide)]
    refine jat (pc' := 59) T' rfl rfl ⟨by decide, hr⟩ rfl ?_
    rw [tv4 hr]
    refine jx (pc' := 61) (L' := [_, _, _, _]) (st' := [.long (lN 0), _, _]) 2 rfl ?_
    try simp (disch := omega) only [nI_add, nI_mul, nI_sub, nI_l, lN_i, lN_add, lN_mul, lN_sub, Nat.zero_mul, Nat.one_mul, Nat.sub_zero, Nat.add_zero, Nat.zero_add, Nat.add_sub_cancel]
    refine jcv (pc' := 64) 55 [_, .long (lN 0)] [] A'.1 rfl rfl rfl rfl rfl rfl rfl rfl ?_
    refine c_timesPlus A' (by omega) (by omega) (by rw [hv, Nat.add_zero, Nat.mul_assoc, ← hpw]; exact hs) fun f'' l' hv' => jk ?_
    refine ix_qr _ rfl rfl rfl ?_
    rw [ix_up_up]
    refine q f'' l' ?_
    rw [hv', hv, Nat.add_zero, Nat.mul_assoc, ← hpw]
  have loop : ∀ m : Nat, m ≤ 16 → ∀ f' : Nat → Nat, (∀ i, i < 16 → f' i < 1000000000) → (∀ i, i < m → f' i = f i) → (∀ i, m ≤ i → i < 16 → f' i = if i < p / 9 then 0 else f (i - p / 9)) → ix_E 56 13 [some (.ref a), some (.int (nI p)), some (.int (nI (p / 9))), some (.int (nI m + Int32.ofInt (-1)))] [] (ix_up h d (cN f')) Q := by
    intro m
    induction m with
    | zero =>
      intro hm f' l hlo hhi
      refine jx (pc' := 14) (L' := [_, _, _, _]) (st' := [_]) 1 rfl ?_
      refine jit (pc' := 50) rfl rfl rfl (by decide) ?_
      refine fin _ f' l ?_
      rcases Nat.lt_or_ge 16 (p / 9) with z | z
      · have hV : vl f 16 = 0 := by
          rcases Nat.eq_zero_or_pos (vl f 16) with y | y
          · exact y
          · exfalso
            have a1 : 1000000000 ^ 16 ≤ 1000000000 ^ (p / 9) := Nat.pow_le_pow_right (by decide) (by omega)
            have a2 : 1000000000 ^ (p / 9) ≤ 10 ^ p := by
              rw [hpw]
              exact Nat.le_mul_of_pos_right _ ht.2
            have a3 : 10 ^ p ≤ vl f 16 * 10 ^ p := Nat.le_mul_of_pos_left _ y
            exact absurd hs (Nat.not_lt.mpr (Nat.le_trans a1 (Nat.le_trans a2 a3)))
        rw [hV, Nat.zero_mul]
        exact vl_0 fun j hj => by rw [hhi j (by omega) hj, if_pos (by omega)]
      · have e1 := vl_sh (f := f) (f' := f') (k := p / 9) (m := 16 - p / 9) (fun j hj => by rw [hhi j (by omega) (by omega), if_pos hj]) (fun j hj => by rw [hhi _ (by omega) (by omega), if_neg (by omega), Nat.add_sub_cancel_left])
        rw [show p / 9 + (16 - p / 9) = 16 by omega] at e1
        rw [e1]
        congr 1
        refine (vl_hi (by omega) (vl_top ?_)).symm
        have a2 : vl f 16 * 1000000000 ^ (p / 9) ≤ vl f 16 * 10 ^ p := by
          rw [hpw]
          exact Nat.mul_le_mul_left _ (Nat.le_mul_of_pos_right _ ht.2)
        have a3 : 1000000000 ^ 16 = 1000000000 ^ (16 - p / 9) * 1000000000 ^ (p / 9) := by
          rw [← Nat.pow_add]
          congr 1
          omega
        rw [a3] at hs
        exact Nat.lt_of_mul_lt_mul_right (Nat.lt_of_le_of_lt a2 hs)
    | succ m ih =>
      intro hm f' l hlo hhi
      have A' : nt (ix_up h d (cN f')) a d f' := A.nw l
      rw [nI_d]
      refine jx (pc' := 14) (L' := [_, _, _, _]) (st' := [_]) 1 rfl ?_
      refine jin (pc' := 17) 50 rfl rfl rfl rfl (by rw [cz_lt (by omega)]; exact decide_eq_false (by omega)) ?_
      rcases Nat.eq_zero_or_pos (p / 9) with hk | hk
      · skip
        refine jx (pc' := 18) (L' := [_, _, _, _]) (st' := [_]) 1 rfl ?_
        refine jit (pc' := 50) rfl rfl rfl (by rw [cz_le (by omega)]; exact decide_eq_true (by omega)) ?_
        refine fin _ f' l ?_
        rw [hk, Nat.pow_zero, Nat.mul_one]
        refine vl_cg fun j hj => ?_
        rcases Nat.lt_or_ge j (m + 1) with y | y
        · exact hlo j y
        · rw [hhi j y hj, hk]; simp
      · skip
        refine jx (pc' := 18) (L' := [_, _, _, _]) (st' := [_]) 1 rfl ?_
        refine jin (pc' := 21) 50 rfl rfl rfl rfl (by rw [cz_le (by omega)]; exact decide_eq_false (by omega)) ?_
        refine jx (pc' := 22) (L' := [_, _, _, _]) (st' := [_]) 1 rfl ?_
        refine jgf (pc' := 25) A'.1 rfl rfl rfl rfl rfl ?_
        have step : ∀ x : Nat, x = (if m < p / 9 then 0 else f (m - p / 9)) → x < 1000000000 → ix_E 56 43 [some (.ref a), some (.int (nI p)), some (.int (nI (p / 9))), some (.int (nI m))] [.int (nI x), .int (nI m), .ref d] (ix_up h d (cN f')) Q := by
          intro x hx hxl
          refine jas' (pc' := 44) A.2.1 rfl rfl (by omega) rfl ?_
          refine jx (pc' := 13) (L' := [_, _, _, _]) (st' := []) 2 rfl ?_
          rw [upd_nI]
          refine ih (by omega) _ (fun i hi => ?_) (fun i hi => ?_) (fun i h1 h2 => ?_)
          · unfold va_up
            split
            · exact hxl
            · exact l i hi
          · rw [va_up_ne _ _ (by omega)]; exact hlo i (by omega)
          · rcases Nat.lt_or_ge m i with y | y
            · rw [va_up_ne _ _ (by omega)]; exact hhi i y h2
            · obtain rfl : i = m := by omega
              rw [va_up_self, hx]
        by_cases hc : m < p / 9
        · skip
          refine jx (pc' := 28) (L' := [_, _, _, _]) (st' := [_, _, _, _]) 3 rfl ?_
          refine jct (pc' := 42) rfl rfl rfl (by rw [cc_lt (by omega) (by omega)]; exact decide_eq_true (by omega)) ?_
          refine jx (pc' := 43) (L' := [_, _, _, _]) (st' := [.int (nI 0), _, _]) 1 rfl ?_
          exact step 0 (by rw [if_pos hc]) (by decide)
        · skip
          refine jx (pc' := 28) (L' := [_, _, _, _]) (st' := [_, _, _, _]) 3 rfl ?_
          refine jcn (pc' := 31) 42 rfl rfl rfl rfl (by rw [cc_lt (by omega) (by omega)]; exact decide_eq_false (by omega)) ?_
          refine jx (pc' := 32) (L' := [_, _, _, _]) (st' := [_, _, _]) 1 rfl ?_
          refine jgf (pc' := 35) A'.1 rfl rfl rfl rfl rfl ?_
          refine jx (pc' := 38) (L' := [_, _, _, _]) (st' := [_, _, _, _]) 3 rfl ?_
          try simp (disch := omega) only [nI_add, nI_mul, nI_sub, Nat.zero_mul, Nat.one_mul, Nat.sub_zero, Nat.add_zero, Nat.zero_add, Nat.add_sub_cancel]
          refine jal (pc' := 39) A'.2.1 rfl rfl (by omega) rfl ?_
          rw [hlo _ (by omega)]
          refine jx (pc' := 43) (L' := [_, _, _, _]) (st' := [_, _, _]) 1 rfl ?_
          exact step _ (by rw [if_neg hc]) (A.2.2 _ (by omega))
  refine jx (pc' := 1) (L' := [_, _, _, _]) (st' := [_]) 1 rfl ?_
  refine jit (pc' := 5) rfl rfl rfl (by rw [cz_gt (by omega)]; exact decide_eq_true (by omega)) ?_
  refine jx (pc' := 8) (L' := [_, _, _, _]) (st' := [.int (nI 9), _]) 2 rfl ?_
  refine jidiv (pc' := 9) rfl rfl (by decide) rfl ?_
  rw [nI_div hp (by decide)]
  refine jx (pc' := 13) (L' := [_, _, _, _]) (st' := []) 3 rfl ?_
  try simp (disch := omega) only [kb15, nI_add, nI_mul, nI_sub, Nat.zero_mul, Nat.one_mul, Nat.sub_zero, Nat.add_zero, Nat.zero_add, Nat.add_sub_cancel]
  have := loop 16 (by omega) f A.2.2 (fun _ _ => rfl) (fun i h1 h2 => absurd h1 (by omega))
  rw [nI_d 15, A.2.1.id] at this
  exact this
end NAT
